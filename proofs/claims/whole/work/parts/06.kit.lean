abbrev vwCl : List vw_C := [(RX0, TX0, 7), (RX1, TX1, 9), (RX2, TX2, 2), (RX3, TX3, 12), (RX4, TX4, 7), (RX5, TX5, 2), (RX6, TX6, 10), (RX7, TX7, 7), (RX8, TX8, 28)]
/-! Worlds of objects whose int fields are a function, of int and boolean arrays; one row an instruction, one row a call. -/
def gx_nw (q : String × Nat × String × String × String) : Cond := .fieldLinkNest q.1 q.2.1 q.2.2.1 q.2.2.2.1 q.2.2.2.2 "LzwForms"
def gx_N : List (String × Nat × String × String × String) := [("LzwForms", 84, "LzwForms$Rules", "form", "I"), ("LzwForms$Pace", 56, "LzwForms$Rules", "k", "I"), ("LzwForms", 87, "LzwForms$Rules", "k", "I"), ("LzwForms", 90, "LzwForms$Rules", "most", "I"), ("LzwForms$Pace", 75, "LzwForms$Rules", "most", "I"), ("LzwForms$Packer", 108, "LzwForms$Rules", "clears", "I"), ("LzwForms", 93, "LzwForms$Rules", "clears", "I"), ("LzwForms$Packer", 49, "LzwForms$Rules", "hasEnd", "Z"), ("LzwForms$Unpacker", 114, "LzwForms$Rules", "hasEnd", "Z"), ("LzwForms$Unpacker", 51, "LzwForms$Rules", "inGroups", "Z"), ("LzwForms$Pace", 32, "LzwForms$Rules", "inGroups", "Z"), ("LzwForms$Tape", 50, "LzwForms$Rules", "highestBitFirst", "Z"), ("LzwForms$Pace", 41, "LzwForms$Rules", "clearCode", "I"), ("LzwForms$Packer", 114, "LzwForms$Rules", "clearCode", "I"), ("LzwForms$Unpacker", 111, "LzwForms$Rules", "clearCode", "I"), ("LzwForms$Unpacker", 82, "LzwForms$Rules", "endCode", "I"), ("LzwForms$Packer", 88, "LzwForms$Rules", "endCode", "I"), ("LzwForms$Pace", 44, "LzwForms$Rules", "endCode", "I"), ("LzwForms$Table", 35, "LzwForms$Rules", "firstNumber", "I"), ("LzwForms$Pace", 50, "LzwForms$Rules", "firstNumber", "I"), ("LzwForms$Unpacker", 126, "LzwForms$Rules", "firstNumber", "I"), ("LzwForms$Table", 40, "LzwForms$Rules", "lastNumber", "I"), ("LzwForms$Pace", 62, "LzwForms$Rules", "lastNumber", "I"), ("LzwForms$Unpacker", 139, "LzwForms$Rules", "lastNumber", "I"), ("LzwForms", 96, "LzwForms$Tape", "bytes", "LLzwForms$Row;"), ("LzwForms$Unpacker", 142, "LzwForms$Pace", "count", "I"), ("LzwForms$Unpacker", 60, "LzwForms$Pace", "width", "I"), ("LzwForms$Packer", 124, "LzwForms$Pace", "width", "I"), ("LzwForms$Unpacker", 123, "LzwForms$Pace", "noStringYet", "Z"), ("LzwForms", 113, "LzwForms$Table", "strings", "I"), ("LzwForms", 109, "LzwForms$Packer", "table", "LLzwForms$Table;"), ("LzwForms", 103, "LzwForms$Packer", "codes", "LLzwForms$Row;"), ("LzwForms", 121, "LzwForms$Packer", "widths", "LLzwForms$Row;"), ("LzwForms", 124, "LzwForms$Packer", "begins", "LLzwForms$Row;"), ("LzwForms", 106, "LzwForms$Packer", "bits", "I"), ("LzwForms", 118, "LzwForms$Packer", "clearCodes", "I"), ("LzwForms", 153, "LzwForms$Unpacker", "symbols", "LLzwForms$Row;"), ("LzwForms", 150, "LzwForms$Unpacker", "bitsRead", "I")]
def gx_K (D : va_G) (cI cZ : ClassId) (U : State) : Prop := va_K D vwCl [(cI, .int), (cZ, .boolean)] U ∧ ∀ q ∈ gx_N, va_Nw (gx_nw q) U
theorem gx_K.warm {D : va_G} {cI cZ : ClassId} {s U : State} (hW : s.WarmedH U.vm) (h : gx_K D cI cZ s) : gx_K D cI cZ U := ⟨va_K.moved hW.alike h.1, fun q hq => va_Nw.warmF hW (h.2 q hq)⟩
theorem gx_K.call {D : va_G} {cI cZ : ClassId} {U : State} {g : JFrame} {mk : MethodId} {a : Array Value} (h : gx_K D cI cZ U) : gx_K D cI cZ (U.calling g mk a) := ⟨va_K.moved (u := U) (U := U.calling g mk a) (Vm.Alike.refl U.vm) h.1, fun q hq => va_Nw.same (u := U) (U := U.calling g mk a) rfl rfl (h.2 q hq)⟩
-- cells
def gx_fs : Nat → List (Option (Option Nat)) → (Nat → Int32) → List Value
  | _, [], _ => []
  | i, none :: t, V => .int (V i) :: gx_fs (i + 1) t V
  | i, some none :: t, V => .null :: gx_fs (i + 1) t V
  | i, some (some a) :: t, V => .ref a :: gx_fs (i + 1) t V
def gx_o (h ci : Nat) (tm : List (Option (Option Nat))) (V : Nat → Int32) : Nat × va_E := (h, .inr (ci, gx_fs 0 tm V))
def gx_a (h : Nat) (cA : ClassId) (n : Nat) (f : Nat → Int32) : Nat × va_E := (h, .inl (cA, n, .inl f))
theorem gx_fs_get : ∀ (tm : List (Option (Option Nat))) (i k : Nat) (V : Nat → Int32), tm[k]? = some none → (gx_fs i tm V)[k]? = some (.int (V (i + k)))
  | [], _, k, _, h => by simp at h
  | none :: t, i, 0, V, _ => by simp [gx_fs]
  | some none :: t, i, 0, V, h => by simp at h
  | some (some a) :: t, i, 0, V, h => by simp at h
  | none :: t, i, k + 1, V, h => by have := gx_fs_get t (i + 1) k V (by simpa using h); simpa [gx_fs, Nat.add_assoc, Nat.add_comm 1 k] using this
  | some none :: t, i, k + 1, V, h => by have := gx_fs_get t (i + 1) k V (by simpa using h); simpa [gx_fs, Nat.add_assoc, Nat.add_comm 1 k] using this
  | some (some a) :: t, i, k + 1, V, h => by have := gx_fs_get t (i + 1) k V (by simpa using h); simpa [gx_fs, Nat.add_assoc, Nat.add_comm 1 k] using this
theorem gx_fs_ref : ∀ (tm : List (Option (Option Nat))) (i k : Nat) (V : Nat → Int32) (a : Nat), tm[k]? = some (some (some a)) → (gx_fs i tm V)[k]? = some (.ref a)
  | [], _, k, _, _, h => by simp at h
  | none :: t, i, 0, V, _, h => by simp at h
  | some none :: t, i, 0, V, _, h => by simp at h
  | some (some a) :: t, i, 0, V, _, h => by simpa [gx_fs] using h
  | none :: t, i, k + 1, V, a, h => by have := gx_fs_ref t (i + 1) k V a (by simpa using h); simpa [gx_fs] using this
  | some none :: t, i, k + 1, V, a, h => by have := gx_fs_ref t (i + 1) k V a (by simpa using h); simpa [gx_fs] using this
  | some (some b) :: t, i, k + 1, V, a, h => by have := gx_fs_ref t (i + 1) k V a (by simpa using h); simpa [gx_fs] using this
theorem gx_fs_len : ∀ (tm : List (Option (Option Nat))) (i : Nat) (V : Nat → Int32), (gx_fs i tm V).length = tm.length
  | [], _, _ => rfl
  | none :: t, i, V => by simp [gx_fs, gx_fs_len t]
  | some none :: t, i, V => by simp [gx_fs, gx_fs_len t]
  | some (some a) :: t, i, V => by simp [gx_fs, gx_fs_len t]
theorem gx_fs_congr : ∀ (tm : List (Option (Option Nat))) (i : Nat) (V V' : Nat → Int32), (∀ j, i ≤ j → V j = V' j) → gx_fs i tm V = gx_fs i tm V'
  | [], _, _, _, _ => rfl
  | none :: t, i, V, V', h => by simp only [gx_fs]; rw [h i (Nat.le_refl i), gx_fs_congr t (i + 1) V V' (fun j hj => h j (by omega))]
  | some none :: t, i, V, V', h => by simp only [gx_fs]; rw [gx_fs_congr t (i + 1) V V' (fun j hj => h j (by omega))]
  | some (some a) :: t, i, V, V', h => by simp only [gx_fs]; rw [gx_fs_congr t (i + 1) V V' (fun j hj => h j (by omega))]
theorem gx_fs_set : ∀ (tm : List (Option (Option Nat))) (i k : Nat) (V : Nat → Int32) (v : Int32), tm[k]? = some none → (gx_fs i tm V).set k (.int v) = gx_fs i tm (upd V (i + k) v)
  | [], _, k, _, _, h => by simp at h
  | none :: t, i, 0, V, v, _ => by
    simp only [gx_fs, List.set_cons_zero, Nat.add_zero]
    rw [gx_fs_congr t (i + 1) V (upd V i v) (fun j hj => by simp [upd]; intro h; omega)]
    simp [upd]
  | some none :: t, i, 0, V, v, h => by simp at h
  | some (some a) :: t, i, 0, V, v, h => by simp at h
  | none :: t, i, k + 1, V, v, h => by
    have := gx_fs_set t (i + 1) k V v (by simpa using h)
    simp only [gx_fs, List.set_cons_succ]
    rw [this, show i + 1 + k = i + (k + 1) by omega]
    simp [upd]
  | some none :: t, i, k + 1, V, v, h => by
    have := gx_fs_set t (i + 1) k V v (by simpa using h)
    simp only [gx_fs, List.set_cons_succ]
    rw [this, show i + 1 + k = i + (k + 1) by omega]
  | some (some a) :: t, i, k + 1, V, v, h => by
    have := gx_fs_set t (i + 1) k V v (by simpa using h)
    simp only [gx_fs, List.set_cons_succ]
    rw [this, show i + 1 + k = i + (k + 1) by omega]
theorem gx_fs_setr : ∀ (tm : List (Option (Option Nat))) (i k : Nat) (V : Nat → Int32) (a : Nat), (gx_fs i tm V).set k (.ref a) = gx_fs i (tm.set k (some (some a))) V
  | [], _, _, _, _ => rfl
  | none :: t, i, 0, V, a => by simp [gx_fs]
  | some none :: t, i, 0, V, a => by simp [gx_fs]
  | some (some b) :: t, i, 0, V, a => by simp [gx_fs]
  | none :: t, i, k + 1, V, a => by simp [gx_fs, gx_fs_setr t (i + 1) k V a]
  | some none :: t, i, k + 1, V, a => by simp [gx_fs, gx_fs_setr t (i + 1) k V a]
  | some (some b) :: t, i, k + 1, V, a => by simp [gx_fs, gx_fs_setr t (i + 1) k V a]
theorem gx_gi {tm : List (Option (Option Nat))} {k : Nat} {V : Nat → Int32} (h : tm[k]? = some none) : (gx_fs 0 tm V)[k]? = some (.int (V k)) := by have := gx_fs_get tm 0 k V h; rwa [Nat.zero_add] at this
theorem gx_gj {tm : List (Option (Option Nat))} {k : Nat} {V : Nat → Int32} {v : Int32} (h : tm[k]? = some none) (hv : V k = v) : (gx_fs 0 tm V)[k]? = some (.int v) := by rw [← hv]; exact gx_gi h
theorem gx_gr {tm : List (Option (Option Nat))} {k a : Nat} {V : Nat → Int32} (h : tm[k]? = some (some (some a))) : (gx_fs 0 tm V)[k]? = some (.ref a) := gx_fs_ref tm 0 k V a h
-- what is known of a field's link, of a call's
def gx_L (Ts : List Cond) (own : String) (idx ci k : Nat) : Prop := ∃ (C : String) (T : u_T) (N : Nat), vwCl[ci]? = some (C, T, N) ∧ (∀ w ∈ u_ws C T N, w ∈ Ts) ∧ k < N ∧ (Cond.fieldLink own idx (T k).1 (T k).2.1 (T k).2.2.1 ∈ Ts ∨ (own, idx, (T k).1, (T k).2.1, (T k).2.2.1) ∈ gx_N)
def gx_LP (Ts : List Cond) (own : String) (idx ci k : Nat) (fin : Bool) (ty : FieldType) : Prop := ∃ (C : String) (T : u_T) (N : Nat) (ty0 : Nat → FieldType), vwCl[ci]? = some (C, T, N) ∧ (∀ w ∈ u_ws C T N, w ∈ Ts) ∧ k < N ∧ Cond.fieldLink own idx (T k).1 (T k).2.1 (T k).2.2.1 ∈ Ts ∧ (∀ k, k < N → parseFieldDescriptor (T k).2.2.1 = some (ty0 k)) ∧ (∀ a, a < N → ∀ b, b < N → a ≠ b → (T a).2.1 ≠ (T b).2.1) ∧ (T k).2.2.2 = fin ∧ (T k).1 = own ∧ parseFieldDescriptor (T k).2.2.1 = some ty
def gx_D (y : MethodName) (n : Nat) : Prop := y.cls ≠ "java/lang/invoke/MethodHandle" ∧ y.cls ≠ "java/lang/invoke/VarHandle" ∧ (parseMethodDescriptor y.desc).map (fun d => d.parameters.length) = some n
def gx_R (maxL : Nat) (rm R : Room) : Prop := rm.frames + 1 ≤ R.frames ∧ 8 + (maxL + 11) + rm.locals ≤ R.locals
def gx_KV (Ts : List Cond) (own : String) (idx : Nat) (y : MethodName) (bytes : ByteArray) (maxL : Nat) (ret : Option FieldType) (wl : List Cond) (rm R : Room) (n : Nat) : Prop := GoodIn Ts (wsV own idx y.cls y wl) ∧ (∃ wl', wl = Cond.code y bytes maxL ret :: wl') ∧ gx_D y n ∧ gx_R maxL rm R
def gx_KS (Ts : List Cond) (own : String) (idx : Nat) (y : MethodName) (bytes : ByteArray) (maxL : Nat) (ret : Option FieldType) (wl : List Cond) (rm R : Room) (n : Nat) : Prop := GoodIn Ts (va_wsS own idx y wl) ∧ (∃ wl', wl = Cond.code y bytes maxL ret :: wl') ∧ gx_D y n ∧ gx_R maxL rm R
def gx_rm (d : Nat) : Room := { frames := d, cells := 0, slots := 0, locals := 28 * d }
-- the machine's fixed part, the world
def gx_C (cc : ByteArray) (nL : Nat) (Ts : List Cond) (own : String) (D : va_G) (cI cZ : ClassId) (p : Program) (s : State) (m : MethodId) (args : Array Value) (c : Code) : Prop := CallFix p m c cc nL s args Ts own ∧ gx_K D cI cZ s
def gx_W (D : va_G) (A : Nat → Prop) (s : State) (ws : va_W) (H : Heap) (locs : List Loc) : Prop := va_P D vwCl ws H ∧ va_D A ws ∧ va_S A s.heap H locs ∧ ∀ q, s.heap.size ≤ q → A q
-- contracts
def gx_B (D : va_G) (cI cZ : ClassId) (ws : va_W) (sz : Nat) (U : State) : Prop := U.heap.size = sz ∧ va_P D vwCl ws U.heap ∧ gx_K D cI cZ U ∧ va_D (fun _ => True) ws
def gx_E (D : va_G) (ws ws' : va_W) (sz : Nat) (t : State) : Prop := va_P D vwCl ws' t.heap ∧ va_D (va_A ws sz) ws'
def gx_Mi (l : Launch) (y : MethodName) (wl : List Cond) (rm : Room) (D : va_G) (cI cZ : ClassId) (av : List Value) (ws ws' : va_W) (r : Int32) : Prop := ∀ sz, Met l y wl rm (va_Pc av (gx_B D cI cZ ws sz)) (va_Qi (fun x (_ : Unit) => x = r) (fun _ t => gx_E D ws ws' sz t) (va_A ws sz)) 0 0 (va_A ws sz)
def gx_Mv (l : Launch) (y : MethodName) (wl : List Cond) (rm : Room) (D : va_G) (cI cZ : ClassId) (av : List Value) (ws ws' : va_W) : Prop := ∀ sz, Met l y wl rm (va_Pc av (gx_B D cI cZ ws sz)) (va_Qv (fun (_ : Unit) => True) (fun _ t => gx_E D ws ws' sz t) (va_A ws sz)) 0 0 (va_A ws sz)
def gx_Mr (l : Launch) (y : MethodName) (wl : List Cond) (rm : Room) (D : va_G) (cI cZ : ClassId) (av : List Value) (ws ws' : va_W) (r : Nat) : Prop := ∀ sz, Met l y wl rm (va_Pc av (gx_B D cI cZ ws sz)) (va_Qr (fun (_ : Unit) => True) (fun _ a t => a = r ∧ gx_E D ws ws' sz t) (va_A ws sz)) 0 0 (va_A ws sz)
theorem gx_blind {D : va_G} {cI cZ : ClassId} {av : List Value} {ws : va_W} {sz : Nat} : FrameBlind (va_Pc av (gx_B D cI cZ ws sz)) := fun _ _ _ _ q => ⟨q.1, q.2.1, q.2.2.1, q.2.2.2.1.call, q.2.2.2.2⟩
theorem gx_g {c : Prop} {α : Type} {dc : Decidable c} {z : α} {o : Option α} (h : (@ite _ c dc o none) = some z) : c ∧ o = some z := by
  by_cases hc : c
  · rw [if_pos hc] at h; exact ⟨hc, h⟩
  · rw [if_neg hc] at h; cases h
theorem gx_t {c : Prop} {α : Type} {dc : Decidable c} {x y z : α} (hc : c) (h : (@ite _ c dc x y) = z) : x = z := by rwa [if_pos hc] at h
theorem gx_f {c : Prop} {α : Type} {dc : Decidable c} {x y z : α} (hc : ¬ c) (h : (@ite _ c dc x y) = z) : y = z := by rwa [if_neg hc] at h
theorem gx_nb {r : Int32} (h : r = 0 ∨ r = 1) : narrow .boolean (.int r) = .int r := by rcases h with rfl | rfl <;> rfl
theorem gx_fb {r : Int32} (h : r = 0 ∨ r = 1) : fits .boolean (.int r) = true := by rcases h with rfl | rfl <;> rfl
theorem gx_tout {x : Int32} (n : Nat) (hn : n < 2 ^ 31 ∧ 0 < n) (h : ∀ j : Nat, j < n → ¬ x = nI j) : x.toInt < 0 ∨ (n : Int) - 1 < x.toInt := by
  rcases pk_ix x hn.1 with h1 | h1 | ⟨j, hj, h1⟩
  · exact Or.inl (Int32.lt_iff_toInt_lt.mp h1)
  · have h2 := Int32.le_iff_toInt_le.mp h1
    rw [nI_toInt hn.1] at h2
    exact Or.inr (by omega)
  · exact absurd h1 (h j hj)
theorem gx_all3 {P : Nat → Prop} (h0 : P 0) (h1 : P 1) (h2 : P 2) : ∀ j, j < 3 → P j := fun j hj => by
  match j, hj with
  | 0, _ => exact h0
  | 1, _ => exact h1
  | 2, _ => exact h2
theorem gx_all9 {P : Nat → Prop} (h0 : P 0) (h1 : P 1) (h2 : P 2) (h3 : P 3) (h4 : P 4) (h5 : P 5) (h6 : P 6) (h7 : P 7) (h8 : P 8) : ∀ j, j < 9 → P j := fun j hj => by
  match j, hj with
  | 0, _ => exact h0
  | 1, _ => exact h1
  | 2, _ => exact h2
  | 3, _ => exact h3
  | 4, _ => exact h4
  | 5, _ => exact h5
  | 6, _ => exact h6
  | 7, _ => exact h7
  | 8, _ => exact h8
theorem gx_all10 {P : Nat → Prop} (h0 : P 0) (h1 : P 1) (h2 : P 2) (h3 : P 3) (h4 : P 4) (h5 : P 5) (h6 : P 6) (h7 : P 7) (h8 : P 8) (h9 : P 9) : ∀ j, j < 10 → P j := fun j hj => by
  match j, hj with
  | 0, _ => exact h0
  | 1, _ => exact h1
  | 2, _ => exact h2
  | 3, _ => exact h3
  | 4, _ => exact h4
  | 5, _ => exact h5
  | 6, _ => exact h6
  | 7, _ => exact h7
  | 8, _ => exact h8
  | 9, _ => exact h9
theorem gx_all14 {P : Nat → Prop} (h0 : P 0) (h1 : P 1) (h2 : P 2) (h3 : P 3) (h4 : P 4) (h5 : P 5) (h6 : P 6) (h7 : P 7) (h8 : P 8) (h9 : P 9) (h10 : P 10) (h11 : P 11) (h12 : P 12) (h13 : P 13) : ∀ j, j < 14 → P j := fun j hj => by
  match j, hj with
  | 0, _ => exact h0
  | 1, _ => exact h1
  | 2, _ => exact h2
  | 3, _ => exact h3
  | 4, _ => exact h4
  | 5, _ => exact h5
  | 6, _ => exact h6
  | 7, _ => exact h7
  | 8, _ => exact h8
  | 9, _ => exact h9
  | 10, _ => exact h10
  | 11, _ => exact h11
  | 12, _ => exact h12
  | 13, _ => exact h13
theorem gx_b {α β : Type} {o : Option α} {f : α → Option β} {z : β} (h : o.bind f = some z) : ∃ a, o = some a ∧ f a = some z := Option.bind_eq_some_iff.mp h
/-- where a method's return leads -/
def gx_Qi (cc : ByteArray) (ty : FieldType) (p : Program) (l : Launch) (e : Env) (R : Room) (s : State) (m : MethodId) (args : Array Value) (below : List Frame) (meth : Method) (c : Code) (D : va_G) (A : Nat → Prop) (Q : State → Prop) (ws' : va_W) (r : Int32) : Prop := ∀ (pc : Nat) (ls : Array Slot) (H : Heap) (locs : List Loc), decode cc pc = .ok (.ireturn, 1) → narrow ty (.int r) = .int r → gx_W D A s ws' H locs → W p l e R s m args below meth c H locs 0 0 Q (F0 m pc ls [.int r])
def gx_Qv (cc : ByteArray) (p : Program) (l : Launch) (e : Env) (R : Room) (s : State) (m : MethodId) (args : Array Value) (below : List Frame) (meth : Method) (c : Code) (D : va_G) (A : Nat → Prop) (Q : State → Prop) (ws' : va_W) : Prop := ∀ (pc : Nat) (ls : Array Slot) (H : Heap) (locs : List Loc), decode cc pc = .ok (.return_, 1) → gx_W D A s ws' H locs → W p l e R s m args below meth c H locs 0 0 Q (F0 m pc ls [])
def gx_Qr (cc : ByteArray) (p : Program) (l : Launch) (e : Env) (R : Room) (s : State) (m : MethodId) (args : Array Value) (below : List Frame) (meth : Method) (c : Code) (D : va_G) (A : Nat → Prop) (Q : State → Prop) (ws' : va_W) (r : Nat) : Prop := ∀ (pc : Nat) (ls : Array Slot) (H : Heap) (locs : List Loc), decode cc pc = .ok (.areturn, 1) → gx_W D A s ws' H locs → W p l e R s m args below meth c H locs 0 0 Q (F0 m pc ls [.ref r])
section GX
variable {p : Program} {l : Launch} {e : Env} {R : Room} {s : State} {m : MethodId} {args : Array Value} {below : List Frame} {meth : Method} {c : Code} {H : Heap} {locs : List Loc} {cells slots : Nat} {Q : State → Prop}
variable {cc : ByteArray} {nL pc : Nat} {Ts : List Cond} {own : String} {D : va_G} {cI cZ : ClassId} {A : Nat → Prop} {ws ws' : va_W} {ls : Array Slot} {rest st : List Value}
theorem gx_tin (hexec : p.tables.exec = Jvm.exec) (hb : c.code = cc) {dflt lo hi : Int} {offs : Array Int} {len : Nat} {x v : Int32} {off : Int} {tgt : Nat} (hdg : decode cc pc = .ok (.tableswitch dflt lo hi offs, len)) (hxv : x = v) {k : Nat} (hk : ¬ v.toInt < lo ∧ ¬ hi < v.toInt ∧ (v.toInt - lo).toNat = k) (ho : offs[k]? = some off) (ht : (pc : Int) + off = (tgt : Int))
    (kk : W p l e R s m args below meth c H locs cells slots Q (F0 m tgt ls rest)) : W p l e R s m args below meth c H locs cells slots Q (F0 m pc ls (.int x :: rest)) := by
  subst hxv
  obtain ⟨h1, h2, h3⟩ := hk
  subst h3
  exact lv_tableIn hexec hb hdg h1 h2 ho ht kk
theorem gx_get (C : gx_C cc nL Ts own D cI cZ p s m args c) (hw : gx_W D A s ws H locs) (q0 : Nat) {a ci : Nat} {tm : List (Option (Option Nat))} {V : Nat → Int32} (he : ws[q0]? = some (gx_o a ci tm V)) {k : Nat} {v : Value} (hv : (gx_fs 0 tm V)[k]? = some v) {idx : Nat} (L : gx_L Ts own idx ci k) (hdg : decode cc pc = .ok (.getfield idx, 3))
    (kk : W p l e R s m args below meth c H locs cells slots Q (F0 m (pc + 3) ls (v :: rest))) : W p l e R s m args below meth c H locs cells slots Q (F0 m pc ls (.ref a :: rest)) := by
  obtain ⟨⟨hx, hb, hml, hown, hts⟩, hK⟩ := C
  obtain ⟨C', T, N, hc, hin, hkN, hl | hl⟩ := L
  · exact va_get hx hb hts hin hown hK.1 hw.1 q0 he hc k hkN (hts _ hl) (fun _ h => h) hv hdg kk
  · exact va_getN hx hb hts hin hown hK.1 hw.1 q0 he hc k hkN (va_Nw.use rfl (hK.2 _ hl)) (fun _ h => h) hv hdg kk
theorem gx_put (C : gx_C cc nL Ts own D cI cZ p s m args c) (hw : gx_W D A s ws H locs) (q0 : Nat) {a ci : Nat} {tm : List (Option (Option Nat))} {V : Nat → Int32} (he : ws[q0]? = some (gx_o a ci tm V)) {k : Nat} (hk : tm[k]? = some none) {v : Int32} {ty : FieldType} {idx : Nat} (L : gx_LP Ts own idx ci k false ty) (hn : narrow ty (.int v) = .int v) (hfit : fits ty (.int v) = true) (hs : ws.set q0 (gx_o a ci tm (upd V k v)) = ws') (hdg : decode cc pc = .ok (.putfield idx, 3))
    (kk : ∀ (H : Heap) (locs : List Loc), gx_W D A s ws' H locs → W p l e R s m args below meth c H locs cells slots Q (F0 m (pc + 3) ls rest)) : W p l e R s m args below meth c H locs cells slots Q (F0 m pc ls (.int v :: .ref a :: rest)) := by
  obtain ⟨⟨hx, hb, hml, hown, hts⟩, hK⟩ := C
  obtain ⟨C', T, N, ty0, hc, hin, hkN, hl, hty, hnm, hfin, -, hd⟩ := L
  have hlen : k < (gx_fs 0 tm V).length := by rw [gx_fs_len]; exact (List.getElem?_eq_some_iff.mp hk).1
  refine va_put hx hb hts hin ty0 hty hnm hown hK.1 hw.1 hw.2.1 hw.2.2.1 q0 he hc k hkN (hts _ hl) (fun _ h => h) hfin hd hn hfit hlen hdg (fun H1 locs1 hP hD hS => ?_)
  have e := gx_fs_set tm 0 k V v hk
  rw [Nat.zero_add] at e
  rw [e] at hP hD
  subst hs
  exact kk H1 locs1 ⟨hP, hD, hS, hw.2.2.2⟩
theorem gx_iald (C : gx_C cc nL Ts own D cI cZ p s m args c) (hw : gx_W D A s ws H locs) (q0 : Nat) {a n : Nat} {f : Nat → Int32} (he : ws[q0]? = some (gx_a a cI n f)) {i : Int32} (hin : vp_in i n) (hdg : decode cc pc = .ok (.iaload, 1))
    (kk : W p l e R s m args below meth c H locs cells slots Q (F0 m (pc + 1) ls (.int (f i.toNatClampNeg) :: rest))) : W p l e R s m args below meth c H locs cells slots Q (F0 m pc ls (.int i :: .ref a :: rest)) :=
  va_iald C.1.1 C.1.2.1 C.2.1 hw.1 q0 0 he rfl hin hdg kk
theorem gx_zald (C : gx_C cc nL Ts own D cI cZ p s m args c) (hw : gx_W D A s ws H locs) (q0 : Nat) {a n : Nat} {f : Nat → Int32} (he : ws[q0]? = some (gx_a a cZ n f)) {i : Int32} (hin : vp_in i n) (hdg : decode cc pc = .ok (.baload, 1))
    (kk : W p l e R s m args below meth c H locs cells slots Q (F0 m (pc + 1) ls (.int (f i.toNatClampNeg) :: rest))) : W p l e R s m args below meth c H locs cells slots Q (F0 m pc ls (.int i :: .ref a :: rest)) :=
  va_zald C.1.1 C.1.2.1 C.2.1 hw.1 q0 1 he rfl hin hdg kk
theorem gx_iast (C : gx_C cc nL Ts own D cI cZ p s m args c) (hw : gx_W D A s ws H locs) (q0 : Nat) {a n : Nat} {f : Nat → Int32} (he : ws[q0]? = some (gx_a a cI n f)) {i x : Int32} (hin : vp_in i n) (hs : ws.set q0 (gx_a a cI n (upd f i.toNatClampNeg x)) = ws') (hdg : decode cc pc = .ok (.iastore, 1))
    (kk : ∀ (H : Heap) (locs : List Loc), gx_W D A s ws' H locs → W p l e R s m args below meth c H locs cells slots Q (F0 m (pc + 1) ls rest)) : W p l e R s m args below meth c H locs cells slots Q (F0 m pc ls (.int x :: .int i :: .ref a :: rest)) := by
  subst hs
  exact va_iast C.1.1 C.1.2.1 C.2.1 hw.1 hw.2.1 hw.2.2.1 q0 0 he rfl hin hdg (fun H1 locs1 hP hD hS => kk H1 locs1 ⟨hP, hD, hS, hw.2.2.2⟩)
theorem gx_zast (C : gx_C cc nL Ts own D cI cZ p s m args c) (hw : gx_W D A s ws H locs) (q0 : Nat) {a n : Nat} {f : Nat → Int32} (he : ws[q0]? = some (gx_a a cZ n f)) {i x : Int32} (hin : vp_in i n) (hs : ws.set q0 (gx_a a cZ n (upd f i.toNatClampNeg (vp_nar .boolean x))) = ws') (hdg : decode cc pc = .ok (.bastore, 1))
    (kk : ∀ (H : Heap) (locs : List Loc), gx_W D A s ws' H locs → W p l e R s m args below meth c H locs cells slots Q (F0 m (pc + 1) ls rest)) : W p l e R s m args below meth c H locs cells slots Q (F0 m pc ls (.int x :: .int i :: .ref a :: rest)) := by
  subst hs
  exact va_zast C.1.1 C.1.2.1 C.2.1 hw.1 hw.2.1 hw.2.2.1 q0 1 he rfl hin hdg (fun H1 locs1 hP hD hS => kk H1 locs1 ⟨hP, hD, hS, hw.2.2.2⟩)
theorem gx_alen (C : gx_C cc nL Ts own D cI cZ p s m args c) (hw : gx_W D A s ws H locs) (q0 : Nat) {a n : Nat} {f : Nat → Int32} (he : ws[q0]? = some (gx_a a cI n f)) (hdg : decode cc pc = .ok (.arraylength, 1))
    (kk : W p l e R s m args below meth c H locs cells slots Q (F0 m (pc + 1) ls (.int (Int32.ofNat n) :: rest))) : W p l e R s m args below meth c H locs cells slots Q (F0 m pc ls (.ref a :: rest)) :=
  va_alen C.1.1 C.1.2.1 C.2.1 hw.1 q0 0 he (ty := .int) rfl rfl hdg kk
/-- where the cells of a call lie: the callee's, the others', and the order in which they are put together again -/
def gx_J (ws wc wc' ws' : va_W) (isC isR isP : List Nat) : Prop := isC.map (fun i => ws[i]?) = wc.map some ∧ isR.map (fun i => ws[i]?) = (isR.filterMap (fun i => ws[i]?)).map some ∧ va_nd isC = true ∧ va_nd isR = true ∧ (∀ i ∈ isR, i ∉ isC) ∧ va_nd isP = true ∧ isP.map (fun i => (isR.filterMap (fun i => ws[i]?) ++ wc')[i]?) = ws'.map some
theorem gx_mapsome {α β : Type} (f : α → Option β) : ∀ (is : List α) (w : List β), is.map f = w.map some → is.filterMap f = w
  | [], [], _ => rfl
  | [], _ :: _, h => by simp at h
  | _ :: _, [], h => by simp at h
  | a :: is, b :: w, h => by
    simp only [List.map_cons, List.cons.injEq] at h
    rw [List.filterMap_cons, h.1]
    simp [gx_mapsome f is w h.2]
theorem gx_W.join {wc wc' : va_W} {isC isR isP : List Nat} {H1 : Heap} {locs1 : List Loc} {sz : Nat} (hw : gx_W D A s ws H locs) (J : gx_J ws wc wc' ws' isC isR isP) (hsz : H.size = sz) (hk1 : ∀ q : Nat, q < H.size → ¬ va_A wc sz q → H1[q]? = H[q]?) (t : State) (ht : t.heap = H1) (hE : gx_E D wc wc' sz t) (hS : va_S A s.heap H1 locs1) : gx_W D A s ws' H1 locs1 := by
  obtain ⟨hC, hR, hnC, hnR, hdis, hnP, hP⟩ := J
  subst hsz
  have hFc := va_free (wc := wc) hw.2.1 hw.2.2.1 hw.2.2.2 isC hC
  obtain ⟨h1, h2⟩ := va_join hw.1 hw.2.1 isC isR hC hR hnR hdis hk1 hFc (ht ▸ hE.1) hE.2
  exact ⟨h1.sub isP (gx_mapsome _ _ _ hP), h2.sub isP hnP hP, hS, hw.2.2.2⟩
theorem gx_preB {wc : va_W} {isC : List Nat} {av : List Value} (C : gx_C cc nL Ts own D cI cZ p s m args c) (hw : gx_W D A s ws H locs) (hC : isC.map (fun i => ws[i]?) = wc.map some) (hnC : va_nd isC = true) : PreS s H (va_Pc av (gx_B D cI cZ wc H.size)) av :=
  ⟨gx_blind, fun U hU hW => ⟨rfl, by rw [hU], by rw [hU]; exact hw.1.sub isC (gx_mapsome _ _ _ hC), C.2.warm hW, (hw.2.1.sub isC hnC hC).weaken (fun _ _ _ _ => trivial)⟩⟩
section CALL
variable {y : MethodName} {bytes : ByteArray} {maxL n idx b ci : Nat} {ret : Option FieldType} {wl : List Cond} {rm : Room} {As : List Value} {wc wc' : va_W} {isC isR isP : List Nat} {fs : List Value}
theorem gx_runV {Qc : Array Value → State → Outcome → State → Prop} {free : Addr → Prop} (C : gx_C cc nL Ts own D cI cZ p s m args c) (hw : gx_W D A s ws H locs) (hM : Met l y wl rm (va_Pc (.ref b :: As) (gx_B D cI cZ wc H.size)) Qc 0 0 free) (K : gx_KV Ts own idx y bytes maxL ret wl rm R n) (hr0 : rm.cells = 0 ∧ rm.slots = 0) (J : gx_J ws wc wc' ws' isC isR isP) (q0 : Nat) (hrv : wc[q0]? = some (b, .inr (ci, fs))) (hcl : (vwCl[ci]?).map (fun q => q.1) = some y.cls) (hn : As.length = n) (hst : st = As.reverse ++ .ref b :: rest) (hsize : ls.size = nL) (hroom : (rest.map fun v => v.category).sum ≤ 8) (hf : cells ≤ R.cells ∧ slots ≤ R.slots) (hdg : decode cc pc = .ok (.invokevirtual idx, 3)) :
    va_Run p l e R s m args below meth c H locs cells slots 0 0 (F0 m pc ls st) rest (Qc (Value.ref b :: As).toArray) free := by
  obtain ⟨hG, ⟨wl', hwl⟩, hd, hR⟩ := K
  have hp := gx_preB (av := .ref b :: As) C hw J.1 J.2.2.1
  have hcw := cwV (R := R) (rm := rm) (mc := 0) (ms := 0) n C.1.2.2.2.2 hG hwl hr0.1 hr0.2 ⟨rfl, hd⟩ hR
  obtain ⟨q, hq1, hq2⟩ := Option.map_eq_some_iff.mp hcl
  have hrec := va_recv C.2.1 (hw.1.sub isC (gx_mapsome _ _ _ J.1)) hq1 hrv
  rw [hq2] at hrec
  exact va_runV (As := As) (rest := rest) C.1 hM hcw ⟨hp.1, hrec, hp.2⟩ rfl hn hsize hst (lv_room hroom) hdg ⟨by omega, by omega⟩
theorem gx_calli {r : Int32} (C : gx_C cc nL Ts own D cI cZ p s m args c) (hw : gx_W D A s ws H locs) (hM : gx_Mi l y wl rm D cI cZ (.ref b :: As) wc wc' r) (K : gx_KV Ts own idx y bytes maxL ret wl rm R n) (hr0 : rm.cells = 0 ∧ rm.slots = 0) (J : gx_J ws wc wc' ws' isC isR isP) (q0 : Nat) (hrv : wc[q0]? = some (b, .inr (ci, fs))) (hcl : (vwCl[ci]?).map (fun q => q.1) = some y.cls) (hn : As.length = n) (hst : st = As.reverse ++ .ref b :: rest) (hsize : ls.size = nL) (hroom : (rest.map fun v => v.category).sum ≤ 8) (hf : cells ≤ R.cells ∧ slots ≤ R.slots) (hdg : decode cc pc = .ok (.invokevirtual idx, 3))
    (kk : ∀ (H : Heap) (locs : List Loc), gx_W D A s ws' H locs → W p l e R s m args below meth c H locs cells slots Q (F0 m (pc + 3) ls (.int r :: rest))) : W p l e R s m args below meth c H locs cells slots Q (F0 m pc ls st) := by
  have hFc := va_free (wc := wc) hw.2.1 hw.2.2.1 hw.2.2.2 isC J.1
  refine va_calli (gx_runV C hw (hM H.size) K hr0 J q0 hrv hcl hn hst hsize hroom hf hdg) hw.2.2.1 (fun q _ h => hFc q h) hFc (fun x u t H1 locs1 ht hvm hx hE hz1 hk1 hS => ?_)
  subst hx
  exact kk H1 locs1 (hw.join J rfl hk1 t ht hE hS)
theorem gx_callv (C : gx_C cc nL Ts own D cI cZ p s m args c) (hw : gx_W D A s ws H locs) (hM : gx_Mv l y wl rm D cI cZ (.ref b :: As) wc wc') (K : gx_KV Ts own idx y bytes maxL ret wl rm R n) (hr0 : rm.cells = 0 ∧ rm.slots = 0) (J : gx_J ws wc wc' ws' isC isR isP) (q0 : Nat) (hrv : wc[q0]? = some (b, .inr (ci, fs))) (hcl : (vwCl[ci]?).map (fun q => q.1) = some y.cls) (hn : As.length = n) (hst : st = As.reverse ++ .ref b :: rest) (hsize : ls.size = nL) (hroom : (rest.map fun v => v.category).sum ≤ 8) (hf : cells ≤ R.cells ∧ slots ≤ R.slots) (hdg : decode cc pc = .ok (.invokevirtual idx, 3))
    (kk : ∀ (H : Heap) (locs : List Loc), gx_W D A s ws' H locs → W p l e R s m args below meth c H locs cells slots Q (F0 m (pc + 3) ls rest)) : W p l e R s m args below meth c H locs cells slots Q (F0 m pc ls st) := by
  have hFc := va_free (wc := wc) hw.2.1 hw.2.2.1 hw.2.2.2 isC J.1
  refine va_callv (gx_runV C hw (hM H.size) K hr0 J q0 hrv hcl hn hst hsize hroom hf hdg) hw.2.2.1 (fun q _ h => hFc q h) hFc (fun u t H1 locs1 ht hvm hx hE hz1 hk1 hS => ?_)
  exact kk H1 locs1 (hw.join J rfl hk1 t ht hE hS)
theorem gx_callr {r : Nat} (C : gx_C cc nL Ts own D cI cZ p s m args c) (hw : gx_W D A s ws H locs) (hM : gx_Mr l y wl rm D cI cZ (.ref b :: As) wc wc' r) (K : gx_KV Ts own idx y bytes maxL ret wl rm R n) (hr0 : rm.cells = 0 ∧ rm.slots = 0) (J : gx_J ws wc wc' ws' isC isR isP) (q0 : Nat) (hrv : wc[q0]? = some (b, .inr (ci, fs))) (hcl : (vwCl[ci]?).map (fun q => q.1) = some y.cls) (hn : As.length = n) (hst : st = As.reverse ++ .ref b :: rest) (hsize : ls.size = nL) (hroom : (rest.map fun v => v.category).sum ≤ 8) (hf : cells ≤ R.cells ∧ slots ≤ R.slots) (hdg : decode cc pc = .ok (.invokevirtual idx, 3))
    (kk : ∀ (H : Heap) (locs : List Loc), gx_W D A s ws' H locs → W p l e R s m args below meth c H locs cells slots Q (F0 m (pc + 3) ls (.ref r :: rest))) : W p l e R s m args below meth c H locs cells slots Q (F0 m pc ls st) := by
  have hFc := va_free (wc := wc) hw.2.1 hw.2.2.1 hw.2.2.2 isC J.1
  refine va_callr (gx_runV C hw (hM H.size) K hr0 J q0 hrv hcl hn hst hsize hroom hf hdg) hw.2.2.1 (fun q _ h => hFc q h) hFc (fun u ra t H1 locs1 ht hvm hx hE hz1 hk1 hS => ?_)
  obtain ⟨rfl, hE⟩ := hE
  exact kk H1 locs1 (hw.join J rfl hk1 t ht hE hS)
theorem gx_calls {r : Int32} (C : gx_C cc nL Ts own D cI cZ p s m args c) (hw : gx_W D A s ws H locs) (hM : gx_Mi l y wl rm D cI cZ As [] [] r) (K : gx_KS Ts own idx y bytes maxL ret wl rm R n) (hr0 : rm.cells = 0 ∧ rm.slots = 0) (hn : As.length = n) (hst : st = As.reverse ++ rest) (hsize : ls.size = nL) (hroom : (rest.map fun v => v.category).sum ≤ 8) (hf : cells ≤ R.cells ∧ slots ≤ R.slots) (hdg : decode cc pc = .ok (.invokestatic idx, 3))
    (kk : ∀ (H : Heap) (locs : List Loc), gx_W D A s ws H locs → W p l e R s m args below meth c H locs cells slots Q (F0 m (pc + 3) ls (.int r :: rest))) : W p l e R s m args below meth c H locs cells slots Q (F0 m pc ls st) := by
  obtain ⟨hG, ⟨wl', hwl⟩, hd, hR⟩ := K
  have hp := gx_preB (wc := []) (isC := []) (av := As) C hw rfl rfl
  have hcw := va_cwS (R := R) (rm := rm) (mc := 0) (ms := 0) n C.1.2.2.2.2 hG hwl hr0.1 hr0.2 hd hR
  have hFc := va_free (wc := []) hw.2.1 hw.2.2.1 hw.2.2.2 [] rfl
  refine va_calli (va_runS (As := As) (rest := rest) C.1 (hM H.size) hcw hp rfl hn hsize hst (lv_room hroom) hdg ⟨by omega, by omega⟩) hw.2.2.1 (fun q _ h => hFc q h) hFc (fun x u t H1 locs1 ht hvm hx hE hz1 hk1 hS => ?_)
  subst hx
  refine kk H1 locs1 ⟨hw.1.kept (fun k q hq => hk1 q.1 (hw.1 k q hq).lt (fun hh => ?_)), hw.2.1, hS, hw.2.2.2⟩
  rcases hh with ⟨k, e, he⟩ | hh
  · simp at he
  · exact absurd (hw.1 k q hq).lt (Nat.not_lt.mpr hh)
end CALL
theorem gx_ofi {y : MethodName} {wl wl' : List Cond} {rm : Room} {maxL : Nat} {ty : FieldType} {av : List Value} {r : Int32} (hy : plainName y.cls = true) (hwl : wl = Cond.code y cc maxL (some ty) :: wl') (hown : y.cls = own) (hlen : (lg_sl av).length ≤ maxL) (lv : List (Nat × Value)) (hlv : lv_args 0 av = lv)
    (body : ∀ (p : Program) (e : Env) (s : State) (m : MethodId) (args : Array Value) (below : List Frame) (meth : Method) (c : Code) (A : Nat → Prop) (Q : State → Prop) (ls : Array Slot), gx_C cc maxL wl own D cI cZ p s m args c → gx_Qi cc ty p l e rm s m args below meth c D A Q ws' r → lv_has ls maxL lv → gx_W D A s ws s.heap [] → W p l e rm s m args below meth c s.heap [] 0 0 Q (F0 m 0 ls [])) : gx_Mi l y wl rm D cI cZ av ws ws' r := by
  intro sz
  refine Met.ofW (cc := cc) (maxL := maxL) (ret := some ty) hy hwl ?_
  intro p e s m args below meth c s₁ B hml hv
  obtain ⟨rfl, hsz, hP, hK, hD0⟩ := hv
  have hlocks := B.notSynchronized
  subst hsz
  have hl := lv_entry av (n := maxL) hlen
  rw [lg_entry_eq]
  rw [hlv] at hl
  have ho : s.vm.findClass own = some m.cls := by rw [← hown]; exact findClass_of_methodNamed B.named
  refine body p e s m av.toArray below meth c (va_A ws s.heap.size) _ _ ⟨⟨B.exec, B.bytes, hml, ho, atoms_spec (ws := wl) B.pre⟩, hK⟩ (fun pc ls H locs hd hty hw => ?_) hl ⟨hP, hD0.self, va_S.rf, fun q h => Or.inr h⟩
  exact W.zret (v := r) B.exec B.bytes B.returns hty (fun t ht hW => ⟨⟨r, (), rfl, rfl, by rw [ht]; exact hw.1, hw.2.1⟩, hw.2.2.1.F ht⟩) hw.2.2.1.2.2 hd
theorem gx_ofv {y : MethodName} {wl wl' : List Cond} {rm : Room} {maxL : Nat} {av : List Value} (hy : plainName y.cls = true) (hwl : wl = Cond.code y cc maxL none :: wl') (hown : y.cls = own) (hlen : (lg_sl av).length ≤ maxL) (lv : List (Nat × Value)) (hlv : lv_args 0 av = lv)
    (body : ∀ (p : Program) (e : Env) (s : State) (m : MethodId) (args : Array Value) (below : List Frame) (meth : Method) (c : Code) (A : Nat → Prop) (Q : State → Prop) (ls : Array Slot), gx_C cc maxL wl own D cI cZ p s m args c → gx_Qv cc p l e rm s m args below meth c D A Q ws' → lv_has ls maxL lv → gx_W D A s ws s.heap [] → W p l e rm s m args below meth c s.heap [] 0 0 Q (F0 m 0 ls [])) : gx_Mv l y wl rm D cI cZ av ws ws' := by
  intro sz
  refine Met.ofW (cc := cc) (maxL := maxL) (ret := none) hy hwl ?_
  intro p e s m args below meth c s₁ B hml hv
  obtain ⟨rfl, hsz, hP, hK, hD0⟩ := hv
  have hlocks := B.notSynchronized
  subst hsz
  have hl := lv_entry av (n := maxL) hlen
  rw [lg_entry_eq]
  rw [hlv] at hl
  have ho : s.vm.findClass own = some m.cls := by rw [← hown]; exact findClass_of_methodNamed B.named
  refine body p e s m av.toArray below meth c (va_A ws s.heap.size) _ _ ⟨⟨B.exec, B.bytes, hml, ho, atoms_spec (ws := wl) B.pre⟩, hK⟩ (fun pc ls H locs hd hw => ?_) hl ⟨hP, hD0.self, va_S.rf, fun q h => Or.inr h⟩
  exact W.vret B.exec B.bytes B.returns (fun t ht hW => ⟨⟨(), rfl, trivial, by rw [ht]; exact hw.1, hw.2.1⟩, hw.2.2.1.F ht⟩) hw.2.2.1.2.2 hd
theorem gx_ofr {y : MethodName} {wl wl' : List Cond} {rm : Room} {maxL : Nat} {rt : String} {av : List Value} {r : Nat} (hy : plainName y.cls = true) (hwl : wl = Cond.code y cc maxL (some (.object rt)) :: wl') (hown : y.cls = own) (hlen : (lg_sl av).length ≤ maxL) (lv : List (Nat × Value)) (hlv : lv_args 0 av = lv)
    (body : ∀ (p : Program) (e : Env) (s : State) (m : MethodId) (args : Array Value) (below : List Frame) (meth : Method) (c : Code) (A : Nat → Prop) (Q : State → Prop) (ls : Array Slot), gx_C cc maxL wl own D cI cZ p s m args c → gx_Qr cc p l e rm s m args below meth c D A Q ws' r → lv_has ls maxL lv → gx_W D A s ws s.heap [] → W p l e rm s m args below meth c s.heap [] 0 0 Q (F0 m 0 ls [])) : gx_Mr l y wl rm D cI cZ av ws ws' r := by
  intro sz
  refine Met.ofW (cc := cc) (maxL := maxL) (ret := some (.object rt)) hy hwl ?_
  intro p e s m args below meth c s₁ B hml hv
  obtain ⟨rfl, hsz, hP, hK, hD0⟩ := hv
  have hlocks := B.notSynchronized
  subst hsz
  have hl := lv_entry av (n := maxL) hlen
  rw [lg_entry_eq]
  rw [hlv] at hl
  have ho : s.vm.findClass own = some m.cls := by rw [← hown]; exact findClass_of_methodNamed B.named
  refine body p e s m av.toArray below meth c (va_A ws s.heap.size) _ _ ⟨⟨B.exec, B.bytes, hml, ho, atoms_spec (ws := wl) B.pre⟩, hK⟩ (fun pc ls H locs hd hw => ?_) hl ⟨hP, hD0.self, va_S.rf, fun q h => Or.inr h⟩
  exact W.aret (v := .ref r) B.exec B.bytes B.returns (Or.inl ⟨_, rfl⟩) (Or.inr ⟨r, rfl⟩) (fun t ht hW => ⟨⟨(), r, rfl, trivial, rfl, by rw [ht]; exact hw.1, hw.2.1⟩, hw.2.2.1.F ht⟩) hw.2.2.1.2.2 hd
end GX
