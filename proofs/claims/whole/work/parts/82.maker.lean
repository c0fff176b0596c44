/- THE MAKER: the machine while cells are made. The world is a list wr ++ xs of the kit's cells; references are addresses themselves (aw_c id) -/
abbrev am_G : Type := va_G × (Nat → Prop) × (Nat → ClassId)
def am_ty (ca : Nat → ClassId) : List (ClassId × FieldType) := [(ca 0, .int), (ca 1, .boolean), (ca 2, .object aw_Nd)]
def am_X (M : aw_M) (g : am_G) (nL pc : Nat) (ls : List (Option aw_V)) (st : List aw_V) (ws : va_W) (k n : Nat) : Prop := match M with
  | (p, l, e, R, s, m, args, below, meth, c, _, _, Q) => ∀ (H : Heap) (locs : List Loc) (la : Array Slot), va_P g.1 aw_cl ws H → va_D g.2.1 ws → va_S g.2.1 s.heap H locs → aw_l id nL la ls → W p l e R s m args below meth c H locs k n Q (F0 m pc la (st.map (aw_c id)))
def am_B (M : aw_M) (g : am_G) (cc : ByteArray) (nL : Nat) (own : String) (d kc ks : Nat) : Prop := match M with
  | (p, _, _, R, s, m, args, _, _, c, _, _, _) => p.tables.exec = Jvm.exec ∧ c.code = cc ∧ c.maxLocals = nL ∧ s.vm.findClass own = some m.cls ∧ (∀ w ∈ aw_Ts, w.before args s = true) ∧ va_K g.1 aw_cl (am_ty g.2.2) s ∧ (∀ q, s.heap.size ≤ q → g.2.1 q) ∧ d ≤ R.frames ∧ 40 * d ≤ R.locals ∧ kc ≤ R.cells ∧ ks ≤ R.slots ∧ va_AO aw_Nd s
def am_N (M : aw_M) : Prop := match M with
  | (_, _, _, _, _, _, _, _, meth, _, _, _, _) => meth.name = "<init>"
def am_Q (g : am_G) (post : va_W → Prop) : Array Value → State → Outcome → State → Prop := va_Qv post (fun ws t => va_P g.1 aw_cl ws t.heap ∧ va_D g.2.1 ws) g.2.1
def am_E (M : aw_M) (g : am_G) (post : va_W → Prop) (mc ms : Nat) : Prop := match M with
  | (_, _, _, _, s, _, args, below, meth, _, _, _, Q) => meth.sig.returnType = none ∧ meth.locks = false ∧ Q = MQ below (am_Q g post) args s mc ms g.2.1
def am_rm (d mc ms : Nat) : Room := { frames := d, cells := mc, slots := ms, locals := 40 * d }
def am_Pc (g : am_G) (args : List aw_V) (ws : va_W) : Array Value → State → Prop := va_Pc (args.map (aw_c id)) (fun U => va_P g.1 aw_cl ws U.heap ∧ va_K g.1 aw_cl (am_ty g.2.2) U ∧ va_D g.2.1 ws ∧ (∀ q, U.heap.size ≤ q → g.2.1 q) ∧ va_AO aw_Nd U)
/-- a constructor's contract -/
def am_C (l : Launch) (g : am_G) (d mc ms : Nat) (y : aw_Y) (args : List aw_V) (ws : va_W) (post : va_W → Prop) : Prop :=
  Met l y.1 (aw_ws y) (am_rm d mc ms) (am_Pc g args ws) (am_Q g post) mc ms g.2.1
def am_fF (own : String) (ix c k : Nat) (ty : FieldType) : Prop := ∃ (T : u_T) (ty0 : Nat → FieldType), aw_cl[c]? = some (own, T, aw_nf c) ∧ k < aw_nf c ∧ (∀ w ∈ u_ws own T (aw_nf c), w ∈ aw_Ts) ∧ Cond.fieldLink own ix own (T k).2.1 (T k).2.2.1 ∈ aw_Ts ∧ (T k).1 = own ∧
  (∀ j, j < aw_nf c → parseFieldDescriptor (T j).2.2.1 = some (ty0 j)) ∧ (∀ a, a < aw_nf c → ∀ b, b < aw_nf c → a ≠ b → (T a).2.1 ≠ (T b).2.1) ∧ (T k).2.2.2 = true ∧ parseFieldDescriptor (T k).2.2.1 = some ty
def am_ci (own : String) (ix : Nat) (y : aw_Y) (n : Nat) : Prop := Cond.code y.1 y.2.1 y.2.2.1 y.2.2.2 ∈ aw_Ts ∧ Cond.methodLink own ix y.1 ∈ aw_Ts ∧ Cond.instanceMethod y.1 ∈ aw_Ts ∧ Cond.initialized y.1.cls ∈ aw_Ts ∧
  (y.1.cls ≠ "java/lang/invoke/MethodHandle" ∧ y.1.cls ≠ "java/lang/invoke/VarHandle" ∧ (parseMethodDescriptor y.1.desc).map (fun d => d.parameters.length) = some n) ∧ y.2.2.1 ≤ 21 ∧ y.1.name = "<init>" ∧ y.2.2.2 = none
theorem am_get {wr xs : va_W} {j : Nat} {x : Nat × va_E} (h : xs[j]? = some x) : (wr ++ xs)[wr.length + j]? = some x := by
  rw [List.getElem?_append_right (by omega), Nat.add_sub_cancel_left]
  exact h
theorem am_set {wr xs : va_W} {j : Nat} {x : Nat × va_E} : (wr ++ xs).set (wr.length + j) x = wr ++ xs.set j x := by
  rw [List.set_append_right _ _ (by omega), Nat.add_sub_cancel_left]
section AMX
variable {M : aw_M} {g : am_G} {cc : ByteArray} {nL d pc q kc ks k sl : Nat} {own : String} {ls : List (Option aw_V)} {st : List aw_V} {ws wr xs : va_W}
theorem am_less {ls' : List (Option aw_V)} (hl : ∀ (i : Nat) (v : aw_V), ls'[i]? = some (some v) → ls[i]? = some (some v)) (K : am_X M g nL pc ls' st ws k sl) : am_X M g nL pc ls st ws k sl := by
  obtain ⟨p, l, e, R, s, m, args, below, meth, c, cells, slots, Q⟩ := M
  intro H locs la hP hD hS hla
  exact K H locs la hP hD hS (hla.less hl)
theorem am_iconst (B : am_B M g cc nL own d kc ks) {n : Int} {v : Int32} (hd : decode cc pc = .ok (.iconst n, 1)) (hv : Int32.ofInt n = v) (hq : pc + 1 = q) (K : am_X M g nL q ls (.inr v :: st) ws k sl) : am_X M g nL pc ls st ws k sl := by
  obtain ⟨p, l, e, R, s, m, args, below, meth, c, cells, slots, Q⟩ := M
  subst hq
  intro H locs la hP hD hS hl
  exact lv_iconst B.1 B.2.1 hd hv (K H locs la hP hD hS hl)
theorem am_bipush (B : am_B M g cc nL own d kc ks) {n : Int} {v : Int32} (hd : decode cc pc = .ok (.bipush n, 2)) (hv : (Int8.ofInt n).toInt32 = v) (hq : pc + 2 = q) (K : am_X M g nL q ls (.inr v :: st) ws k sl) : am_X M g nL pc ls st ws k sl := by
  obtain ⟨p, l, e, R, s, m, args, below, meth, c, cells, slots, Q⟩ := M
  subst hq
  intro H locs la hP hD hS hl
  exact lv_bipush B.1 B.2.1 hd hv (K H locs la hP hD hS hl)
theorem am_sipush (B : am_B M g cc nL own d kc ks) {n : Int} {v : Int32} (hd : decode cc pc = .ok (.sipush n, 3)) (hv : (Int16.ofInt n).toInt32 = v) (hq : pc + 3 = q) (K : am_X M g nL q ls (.inr v :: st) ws k sl) : am_X M g nL pc ls st ws k sl := by
  obtain ⟨p, l, e, R, s, m, args, below, meth, c, cells, slots, Q⟩ := M
  subst hq
  intro H locs la hP hD hS hl
  exact lv_sipush B.1 B.2.1 hd hv (K H locs la hP hD hS hl)
theorem am_iload_n (B : am_B M g cc nL own d kc ks) {j : Fin 4} {i : Nat} {x : Int32} (hd : decode cc pc = .ok (.iload_n j, 1)) (hi : (j : Nat) = i) (hx : ls[i]? = some (some (.inr x))) (hq : pc + 1 = q) (K : am_X M g nL q ls (.inr x :: st) ws k sl) : am_X M g nL pc ls st ws k sl := by
  obtain ⟨p, l, e, R, s, m, args, below, meth, c, cells, slots, Q⟩ := M
  subst hq
  intro H locs la hP hD hS hl
  exact lv_iload_n B.1 B.2.1 hd hi (hl.2.2 _ _ hx) (K H locs la hP hD hS hl)
theorem am_aload_n (B : am_B M g cc nL own d kc ks) {j : Fin 4} {i a : Nat} (hd : decode cc pc = .ok (.aload_n j, 1)) (hi : (j : Nat) = i) (hx : ls[i]? = some (some (.inl (some a)))) (hq : pc + 1 = q) (K : am_X M g nL q ls (.inl (some a) :: st) ws k sl) : am_X M g nL pc ls st ws k sl := by
  obtain ⟨p, l, e, R, s, m, args, below, meth, c, cells, slots, Q⟩ := M
  subst hq
  intro H locs la hP hD hS hl
  exact lv_aload_n B.1 B.2.1 hd hi (hl.2.2 _ _ hx) (K H locs la hP hD hS hl)
theorem am_istore_n (B : am_B M g cc nL own d kc ks) {j : Fin 4} {i : Nat} {x : Int32} (hd : decode cc pc = .ok (.istore_n j, 1)) (hi : (j : Nat) = i) (hn : i < nL) (hq : pc + 1 = q) (K : am_X M g nL q (ls.set i (some (.inr x))) st ws k sl) : am_X M g nL pc ls (.inr x :: st) ws k sl := by
  obtain ⟨p, l, e, R, s, m, args, below, meth, c, cells, slots, Q⟩ := M
  subst hq
  intro H locs la hP hD hS hl
  exact lv_istore_n B.1 B.2.1 hd hi hl.has hn rfl (fun la' h' => K H locs la' hP hD hS (aw_l.st (v := .inr x) h'))
theorem am_astore_n (B : am_B M g cc nL own d kc ks) {j : Fin 4} {i a : Nat} (hd : decode cc pc = .ok (.astore_n j, 1)) (hi : (j : Nat) = i) (hn : i < nL) (hq : pc + 1 = q) (K : am_X M g nL q (ls.set i (some (.inl (some a)))) st ws k sl) : am_X M g nL pc ls (.inl (some a) :: st) ws k sl := by
  obtain ⟨p, l, e, R, s, m, args, below, meth, c, cells, slots, Q⟩ := M
  subst hq
  intro H locs la hP hD hS hl
  exact lv_astore_n B.1 B.2.1 hd hi hl.has hn rfl (fun la' h' => K H locs la' hP hD hS (aw_l.st (v := .inl (some a)) h'))
theorem am_iinc (B : am_B M g cc nL own d kc ks) {i : Nat} {n : Int} {x v : Int32} (hd : decode cc pc = .ok (.iinc i n, 3)) (hx : ls[i]? = some (some (.inr x))) (hv : x + Int32.ofInt n = v) (hn : i < nL) (hq : pc + 3 = q) (K : am_X M g nL q (ls.set i (some (.inr v))) st ws k sl) : am_X M g nL pc ls st ws k sl := by
  obtain ⟨p, l, e, R, s, m, args, below, meth, c, cells, slots, Q⟩ := M
  subst hq
  intro H locs la hP hD hS hl
  obtain ⟨j, hj⟩ := List.getElem?_of_mem (aw_ll_mem (ad := id) hx)
  exact lv_iinc B.1 B.2.1 hd hl.has hj hv hn rfl (fun la' h' => K H locs la' hP hD hS (aw_l.st (v := .inr v) h'))
theorem am_dup (B : am_B M g cc nL own d kc ks) {v : aw_V} (hd : decode cc pc = .ok (.dup, 1)) (hq : pc + 1 = q) (K : am_X M g nL q ls (v :: v :: st) ws k sl) : am_X M g nL pc ls (v :: st) ws k sl := by
  obtain ⟨p, l, e, R, s, m, args, below, meth, c, cells, slots, Q⟩ := M
  subst hq
  intro H locs la hP hD hS hl
  exact lv_dup B.1 B.2.1 hd (aw_cat _ _) (K H locs la hP hD hS hl)
theorem am_goto (B : am_B M g cc nL own d kc ks) {off : Int} (hd : decode cc pc = .ok (.goto off, 3)) (hq : (pc : Int) + off = (q : Int)) (K : am_X M g nL q ls st ws k sl) : am_X M g nL pc ls st ws k sl := by
  obtain ⟨p, l, e, R, s, m, args, below, meth, c, cells, slots, Q⟩ := M
  intro H locs la hP hD hS hl
  exact lv_goto B.1 B.2.1 hd hq (K H locs la hP hD hS hl)
theorem am_imul (B : am_B M g cc nL own d kc ks) {x y : Int32} (hd : decode cc pc = .ok (.imul, 1)) (hq : pc + 1 = q) (K : am_X M g nL q ls (.inr (x * y) :: st) ws k sl) : am_X M g nL pc ls (.inr y :: .inr x :: st) ws k sl := by
  obtain ⟨p, l, e, R, s, m, args, below, meth, c, cells, slots, Q⟩ := M
  subst hq
  intro H locs la hP hD hS hl
  exact lv_imul B.1 B.2.1 hd (K H locs la hP hD hS hl)
theorem am_icmp_ge (B : am_B M g cc nL own d kc ks) {x y : Int32} {off : Int} {q2 : Nat} (hd : decode cc pc = .ok (.if_icmp .ge off, 3)) (hq : (pc : Int) + off = (q : Int)) (hq2 : pc + 3 = q2) (kt : y ≤ x → am_X M g nL q ls st ws k sl) (kf : ¬ y ≤ x → am_X M g nL q2 ls st ws k sl) : am_X M g nL pc ls (.inr y :: .inr x :: st) ws k sl := by
  obtain ⟨p, l, e, R, s, m, args, below, meth, c, cells, slots, Q⟩ := M
  subst hq2
  intro H locs la hP hD hS hl
  exact lv_icmp_ge B.1 B.2.1 hd hq (fun z => kt z H locs la hP hD hS hl) (fun z => kf z H locs la hP hD hS hl)
theorem am_icmp_le (B : am_B M g cc nL own d kc ks) {x y : Int32} {off : Int} {q2 : Nat} (hd : decode cc pc = .ok (.if_icmp .le off, 3)) (hq : (pc : Int) + off = (q : Int)) (hq2 : pc + 3 = q2) (kt : x ≤ y → am_X M g nL q ls st ws k sl) (kf : ¬ x ≤ y → am_X M g nL q2 ls st ws k sl) : am_X M g nL pc ls (.inr y :: .inr x :: st) ws k sl := by
  obtain ⟨p, l, e, R, s, m, args, below, meth, c, cells, slots, Q⟩ := M
  subst hq2
  intro H locs la hP hD hS hl
  exact lv_icmp_le B.1 B.2.1 hd hq (fun z => kt z H locs la hP hD hS hl) (fun z => kf z H locs la hP hD hS hl)
theorem am_max (B : am_B M g cc nL own d kc ks) {ix : Nat} (hl : Cond.methodLink own ix Lib.Math.max.name ∈ aw_Ts) (hs : Cond.static Lib.Math.max.name ∈ aw_Ts) (hi : Cond.initialized "java/lang/Math" ∈ aw_Ts) (hc : Cond.code Lib.Math.max.name Lib.Math.max.code 2 (some .int) ∈ aw_Ts) (hd : decode cc pc = .ok (.invokestatic ix, 3)) (hst : st.length ≤ 8) (hdd : 0 < d) (hk : k ≤ kc) (hsl : sl ≤ ks) {x y : Int32} (hq : pc + 3 = q) (K : am_X M g nL q ls (.inr (if x < y then y else x) :: st) ws k sl) : am_X M g nL pc ls (.inr y :: .inr x :: st) ws k sl := by
  obtain ⟨p, l, e, R, s, m, args, below, meth, c, cells, slots, Q⟩ := M
  subst hq
  obtain ⟨b1, b2, b3, b4, b5, b6, b7, b8, b9, b10, b11, b12⟩ := B
  intro H locs la hP hD hS hla
  exact va_mmax b1 b2 (b3.trans hla.1.symm) b4 (b5 _ hl) (b5 _ hs) (b5 _ hi) (b5 _ hc) (by omega) (by rw [aw_cats]; omega) (by omega) (by omega) hd (K H locs la hP hD hS hla)
theorem am_min (B : am_B M g cc nL own d kc ks) {ix : Nat} (hl : Cond.methodLink own ix Lib.Math.min.name ∈ aw_Ts) (hs : Cond.static Lib.Math.min.name ∈ aw_Ts) (hi : Cond.initialized "java/lang/Math" ∈ aw_Ts) (hc : Cond.code Lib.Math.min.name Lib.Math.min.code 2 (some .int) ∈ aw_Ts) (hd : decode cc pc = .ok (.invokestatic ix, 3)) (hst : st.length ≤ 8) (hdd : 0 < d) (hk : k ≤ kc) (hsl : sl ≤ ks) {x y : Int32} (hq : pc + 3 = q) (K : am_X M g nL q ls (.inr (if y < x then y else x) :: st) ws k sl) : am_X M g nL pc ls (.inr y :: .inr x :: st) ws k sl := by
  obtain ⟨p, l, e, R, s, m, args, below, meth, c, cells, slots, Q⟩ := M
  subst hq
  obtain ⟨b1, b2, b3, b4, b5, b6, b7, b8, b9, b10, b11, b12⟩ := B
  intro H locs la hP hD hS hla
  exact va_mmin b1 b2 (b3.trans hla.1.symm) b4 (b5 _ hl) (b5 _ hs) (b5 _ hi) (b5 _ hc) (by omega) (by rw [aw_cats]; omega) (by omega) (by omega) hd (K H locs la hP hD hS hla)
theorem am_obj (B : am_B M g cc nL own d kc ks) {ix a : Nat} (hw : Cond.methodLink own ix Lib.objectInit ∈ aw_Ts) (hi : Cond.instanceMethod Lib.objectInit ∈ aw_Ts) (hc : Cond.code Lib.objectInit ⟨#[0xb1]⟩ 1 none ∈ aw_Ts) (hd : decode cc pc = .ok (.invokespecial ix, 3)) (hst : st.length ≤ 8) (hdd : 0 < d) (hq : pc + 3 = q) (K : am_X M g nL q ls st ws k sl) : am_X M g nL pc ls (.inl (some a) :: st) ws k sl := by
  obtain ⟨p, l, e, R, s, m, args, below, meth, c, cells, slots, Q⟩ := M
  subst hq
  obtain ⟨b1, b2, b3, b4, b5, b6, b7, b8, b9, b10, b11, b12⟩ := B
  intro H locs la hP hD hS hla
  refine W.objInit (a := a) (rest := st.map (aw_c id)) b1 b2 b4 (b5 _ hw) (b5 _ hi) (b5 _ hc) rfl (by rw [b3]; exact hla.1) rfl hd (by omega) ?_ (K H locs la hP hD hS hla)
  show 2 * 0 + ((st.map (aw_c id)).map fun v => v.category).sum + 12 ≤ R.locals
  rw [aw_cats]
  omega
theorem am_getR (B : am_B M g cc nL own d kc ks) {ix c f a j b : Nat} {fs : List Value} (F : aw_fl own ix c f) (hd : decode cc pc = .ok (.getfield ix, 3)) (he : xs[j]? = some (a, .inr (c, fs))) (hv : fs[f]? = some (.ref b)) (hq : pc + 3 = q) (K : am_X M g nL q ls (.inl (some b) :: st) (wr ++ xs) k sl) : am_X M g nL pc ls (.inl (some a) :: st) (wr ++ xs) k sl := by
  obtain ⟨p, l, e, R, s, m, args, below, meth, c', cells, slots, Q⟩ := M
  subst hq
  obtain ⟨C, T, hc, hk, hin, hli, hsm⟩ := F
  intro H locs la hP hD hS hl
  exact va_get (ref := C) B.1 B.2.1 B.2.2.2.2.1 hin B.2.2.2.1 B.2.2.2.2.2.1 hP (wr.length + j) (am_get he) hc f hk (B.2.2.2.2.1 _ hli) (fun x hx => by rw [hsm] at hx; exact hx) (v := .ref b) hv hd (K H locs la hP hD hS hl)
theorem am_putF (B : am_B M g cc nL own d kc ks) (N : am_N M) {ix c f a j : Nat} {ty : FieldType} {v : aw_V} {fs : List Value} (F : am_fF own ix c f ty) (hn : narrow ty (aw_c id v) = aw_c id v) (hf : fits ty (aw_c id v) = true) (hd : decode cc pc = .ok (.putfield ix, 3)) (he : xs[j]? = some (a, .inr (c, fs))) (hl : f < fs.length) (hq : pc + 3 = q) (K : am_X M g nL q ls st (wr ++ xs.set j (a, .inr (c, fs.set f (aw_c id v)))) k sl) : am_X M g nL pc ls (v :: .inl (some a) :: st) (wr ++ xs) k sl := by
  obtain ⟨p, l, e, R, s, m, args, below, meth, c', cells, slots, Q⟩ := M
  subst hq
  obtain ⟨T, ty0, hc, hk, hin, hli, hsm, hty, hnm, hfin, hpd⟩ := F
  intro H locs la hP hD hS hla
  refine va_putF (ref := own) (v := aw_c id v) B.1 B.2.1 B.2.2.2.2.1 hin ty0 hty hnm B.2.2.2.1 B.2.2.2.2.2.1 hP hD hS (wr.length + j) (am_get he) hc f hk (B.2.2.2.2.1 _ hli) (fun x hx => by rw [hsm] at hx; exact hx) hfin N hsm hpd hn hf hl hd (fun H1 locs1 hP1 hD1 hS1 => ?_)
  rw [am_set] at hP1 hD1
  exact K H1 locs1 la hP1 hD1 hS1 hla
theorem am_putI (B : am_B M g cc nL own d kc ks) {ix c f a j : Nat} {ty : FieldType} {x : Int32} {fs : List Value} (F : aw_fp own ix c f ty) (hn : narrow ty (.int x) = .int x) (hf : fits ty (.int x) = true) (hd : decode cc pc = .ok (.putfield ix, 3)) (he : xs[j]? = some (a, .inr (c, fs))) (hl : f < fs.length) (hq : pc + 3 = q) (K : am_X M g nL q ls st (wr ++ xs.set j (a, .inr (c, fs.set f (.int x)))) k sl) : am_X M g nL pc ls (.inr x :: .inl (some a) :: st) (wr ++ xs) k sl := by
  obtain ⟨p, l, e, R, s, m, args, below, meth, c', cells, slots, Q⟩ := M
  subst hq
  obtain ⟨C, T, ty0, hc, hk, hin, hli, hsm, hty, hnm, hfin, hpd, hrf⟩ := F
  intro H locs la hP hD hS hla
  refine va_put (ref := C) (v := .int x) B.1 B.2.1 B.2.2.2.2.1 hin ty0 hty hnm B.2.2.2.1 B.2.2.2.2.2.1 hP hD hS (wr.length + j) (am_get he) hc f hk (B.2.2.2.2.1 _ hli) (fun x hx => by rw [hsm] at hx; exact hx) hfin hpd hn hf hl hd (fun H1 locs1 hP1 hD1 hS1 => ?_)
  rw [am_set] at hP1 hD1
  exact K H1 locs1 la hP1 hD1 hS1 hla
theorem am_new (B : am_B M g cc nL own d kc ks) {C : String} {T : u_T} {ci ix : Nat} (ty : Nat → FieldType) (hc : aw_cl[ci]? = some (C, T, aw_nf ci)) (hin : ∀ w ∈ u_ws C T (aw_nf ci), w ∈ aw_Ts) (hty : ∀ j, j < aw_nf ci → parseFieldDescriptor (T j).2.2.1 = some (ty j)) (hcl : Cond.classLink own ix C ∈ aw_Ts) (hinst : Cond.instantiable C (aw_nf ci) ∈ aw_Ts) (hini : Cond.initialized C ∈ aw_Ts) {fs : List Value} (hfs : ∀ j, j < aw_nf ci → defaultValue (ty j) = vp_V fs j) (hk : k + 1 ≤ kc) (hs : sl + aw_nf ci ≤ ks) (hd : decode cc pc = .ok (.new ix, 3)) (hq : pc + 3 = q)
    (K : ∀ r, am_X M g nL q ls (.inl (some r) :: st) (wr ++ (xs ++ [(r, .inr (ci, fs))])) (k + 1) (sl + aw_nf ci)) : am_X M g nL pc ls st (wr ++ xs) k sl := by
  obtain ⟨p, l, e, R, s, m, args, below, meth, c', cells, slots, Q⟩ := M
  subst hq
  obtain ⟨b1, b2, b3, b4, b5, b6, b7, b8, b9, b10, b11, b12⟩ := B
  intro H locs la hP hD hS hla
  refine va_new (ci := ci) (fs := fs) (C := C) (T := T) (N := aw_nf ci) b1 b2 b5 hin ty hty b4 (b5 _ hcl) (b5 _ hinst) (b5 _ hini) b6 hP hD hS b7 hc hfs (by omega) (by omega) hd (fun r H1 hP1 hD1 hS1 => ?_)
  rw [List.append_assoc] at hP1 hD1
  exact K r H1 locs la hP1 hD1 hS1 hla
theorem am_newI (B : am_B M g cc nL own d kc ks) (hw : Cond.arrayClass .int ∈ aw_Ts) {x : Int32} {z : Nat} (hx : x = nI z) (hz : z ≤ 1000000) (hk : k + 1 ≤ kc) (hs : sl + z ≤ ks) (hd : decode cc pc = .ok (.newarray .int, 2)) (hq : pc + 2 = q)
    (K : ∀ r, am_X M g nL q ls (.inl (some r) :: st) (wr ++ (xs ++ [(r, .inl (g.2.2 0, z, .inl (fun _ => 0)))])) (k + 1) (sl + z)) : am_X M g nL pc ls (.inr x :: st) (wr ++ xs) k sl := by
  obtain ⟨p, l, e, R, s, m, args, below, meth, c', cells, slots, Q⟩ := M
  subst hq
  subst hx
  obtain ⟨b1, b2, b3, b4, b5, b6, b7, b8, b9, b10, b11, b12⟩ := B
  intro H locs la hP hD hS hla
  refine va_newa (atype := .int) (ty := .int) (N' := z) (a0 := (z, .inl (fun _ => 0))) b1 b2 (b5 _ hw) rfl b6 hP hD hS b7 (fun cA => rfl) (nI_pos (by omega)) (nI_clamp (by omega)) (by show z * 4 ≤ _; omega) (by omega) (by omega) hd (fun r cA H1 hK1 hP1 hD1 hS1 => ?_)
  have e1 : g.2.2 0 = cA := by
    have h1 := (b6.2 0 (g.2.2 0, .int) rfl).2
    have h2 := (hK1.2 3 (cA, .int) rfl).2
    exact Option.some.inj (h1.symm.trans h2)
  subst e1
  rw [List.append_assoc] at hP1 hD1
  exact K r H1 locs la hP1 hD1 hS1 hla
theorem am_newZ (B : am_B M g cc nL own d kc ks) (hw : Cond.arrayClass .boolean ∈ aw_Ts) {x : Int32} {z : Nat} (hx : x = nI z) (hz : z ≤ 1000000) (hk : k + 1 ≤ kc) (hs : sl + z ≤ ks) (hd : decode cc pc = .ok (.newarray .boolean, 2)) (hq : pc + 2 = q)
    (K : ∀ r, am_X M g nL q ls (.inl (some r) :: st) (wr ++ (xs ++ [(r, .inl (g.2.2 1, z, .inl (fun _ => 0)))])) (k + 1) (sl + z)) : am_X M g nL pc ls (.inr x :: st) (wr ++ xs) k sl := by
  obtain ⟨p, l, e, R, s, m, args, below, meth, c', cells, slots, Q⟩ := M
  subst hq
  subst hx
  obtain ⟨b1, b2, b3, b4, b5, b6, b7, b8, b9, b10, b11, b12⟩ := B
  intro H locs la hP hD hS hla
  refine va_newa (atype := .boolean) (ty := .boolean) (N' := z) (a0 := (z, .inl (fun _ => 0))) b1 b2 (b5 _ hw) rfl b6 hP hD hS b7 (fun cA => rfl) (nI_pos (by omega)) (nI_clamp (by omega)) (by show z * 1 ≤ _; omega) (by omega) (by omega) hd (fun r cA H1 hK1 hP1 hD1 hS1 => ?_)
  have e1 : g.2.2 1 = cA := by
    have h1 := (b6.2 1 (g.2.2 1, .boolean) rfl).2
    have h2 := (hK1.2 3 (cA, .boolean) rfl).2
    exact Option.some.inj (h1.symm.trans h2)
  subst e1
  rw [List.append_assoc] at hP1 hD1
  exact K r H1 locs la hP1 hD1 hS1 hla
theorem am_newQ (B : am_B M g cc nL own d kc ks) {ix : Nat} (hcl : Cond.classLink own ix aw_Nd ∈ aw_Ts) {x : Int32} {z : Nat} (hx : x = nI z) (hz : z ≤ 1000000) (hk : k + 1 ≤ kc) (hs : sl + z ≤ ks) (hd : decode cc pc = .ok (.anewarray ix, 3)) (hq : pc + 3 = q)
    (K : ∀ r, am_X M g nL q ls (.inl (some r) :: st) (wr ++ (xs ++ [(r, .inl (g.2.2 2, z, .inr (.inr (.inr (.inr (fun _ => none))))))])) (k + 1) (sl + z)) : am_X M g nL pc ls (.inr x :: st) (wr ++ xs) k sl := by
  obtain ⟨p, l, e, R, s, m, args, below, meth, c', cells, slots, Q⟩ := M
  subst hq
  subst hx
  obtain ⟨b1, b2, b3, b4, b5, b6, b7, b8, b9, b10, b11, b12⟩ := B
  intro H locs la hP hD hS hla
  refine va_newq (C := aw_Nd) (N' := z) b1 b2 b4 (b5 _ hcl) b12 b6 hP hD hS b7 (nI_pos (by omega)) (nI_clamp (by omega)) (by omega) (by omega) (by omega) hd (fun r cA H1 hK1 hP1 hD1 hS1 => ?_)
  have e1 : g.2.2 2 = cA := by
    obtain ⟨_, _, _, _, _, h1⟩ := (b6.2 2 (g.2.2 2, .object aw_Nd) rfl).2
    obtain ⟨_, _, _, _, _, h2⟩ := (hK1.2 3 (cA, .object aw_Nd) rfl).2
    exact Option.some.inj (h1.symm.trans h2)
  subst e1
  rw [List.append_assoc] at hP1 hD1
  exact K r H1 locs la hP1 hD1 hS1 hla
theorem am_astQ (B : am_B M g cc nL own d kc ks) {a v z j jv : Nat} {i : Int32} {vs : List Value} {f : Nat → Option Nat} (hd : decode cc pc = .ok (.aastore, 1)) (he : xs[j]? = some (a, .inl (g.2.2 2, z, .inr (.inr (.inr (.inr f)))))) (hv : xs[jv]? = some (v, .inr (1, vs))) (hi : vp_in i z) (hq : pc + 1 = q)
    (K : am_X M g nL q ls st (wr ++ xs.set j (a, .inl (g.2.2 2, z, .inr (.inr (.inr (.inr (va_up f i.toNatClampNeg (some v)))))))) k sl) : am_X M g nL pc ls (.inl (some v) :: .inr i :: .inl (some a) :: st) (wr ++ xs) k sl := by
  obtain ⟨p, l, e, R, s, m, args, below, meth, c', cells, slots, Q⟩ := M
  subst hq
  obtain ⟨b1, b2, b3, b4, b5, b6, b7, b8, b9, b10, b11, b12⟩ := B
  intro H locs la hP hD hS hla
  refine va_astq (r := ("SessionTables$Node", F_N, 5)) b1 b2 b6 hP hD hS (wr.length + j) 2 (wr.length + jv) 1 (am_get he) rfl (am_get hv) rfl hi hd (fun H1 locs1 hP1 hD1 hS1 => ?_)
  rw [am_set] at hP1 hD1
  exact K H1 locs1 la hP1 hD1 hS1 hla
theorem am_blind {args : List aw_V} : FrameBlind (am_Pc g args ws) := fun a U g0 mk q => by
  obtain ⟨q0, qP, qK, qD, qA, qO⟩ := q
  exact ⟨q0, qP, va_K.moved (u := U) (U := U.calling g0 mk a) (Vm.Alike.refl U.vm) qK, qD, qA, va_AO.moved (u := U) (U := U.calling g0 mk a) (Vm.Alike.refl U.vm) qO⟩
theorem am_callI (B : am_B M g cc nL own d kc ks) {ix n d' mc ms a : Nat} {y : aw_Y} {as rs : List aw_V} {post : va_W → Prop} (V : am_ci own ix y n) (hd : decode cc pc = .ok (.invokespecial ix, 3)) (hn : as.length = n) (hrs : as.reverse = rs) (hst : st.length ≤ 8) (hdd : d' < d) (hk : k + mc ≤ kc) (hs : sl + ms ≤ ks)
    (C : am_C M.2.1 g d' mc ms y (.inl (some a) :: as) ws post) (hq : pc + 3 = q) (K : ∀ ws', post ws' → am_X M g nL q ls st ws' (k + mc) (sl + ms)) : am_X M g nL pc ls (rs ++ .inl (some a) :: st) ws k sl := by
  obtain ⟨p, l, e, R, s, m, args, below, meth, c', cells, slots, Q⟩ := M
  subst hq
  subst hrs
  obtain ⟨v1, v2, v3, v5, v6, v7, v8, v9⟩ := V
  obtain ⟨b1, b2, b3, b4, b5, b6, b7, b8, b9, b10, b11, b12⟩ := B
  intro H locs la hP hD hS hl
  refine va_callv (va_runI (b := a) (As := as.map (aw_c id)) (rest := st.map (aw_c id)) (n := n) ⟨b1, b2, b3, b4, b5⟩ C ⟨callB_of n b5 (aw_goodIn (fun w hw => hw) y v1) (by unfold aw_ws; rw [v9]) rfl rfl (b5 _ v5) (b5 _ v2) v6 ⟨by show d' + 1 ≤ R.frames; omega, by show 8 + (y.2.2.1 + 11) + 40 * d' ≤ R.locals; omega⟩, v8, b5 _ v3⟩ ⟨am_blind, fun U hU hW => ⟨rfl, by rw [hU]; exact hP, va_K.moved hW.alike b6, hD, fun q hq => b7 q (by rw [hU] at hq; exact Nat.le_trans hS.1 hq), va_AO.moved hW.alike b12⟩⟩ rfl (by rw [List.length_map]; exact hn) hl.1 (by simp only [List.map_append, List.map_reverse, List.map_cons]; rfl) (lv_room (by rw [aw_cats]; exact hst)) hd ⟨by omega, by omega⟩) hS (fun q _ h => h) (fun q h => h) (fun u t H1 locs1 ht hvm hp hb hz hk1 hS1 => ?_)
  obtain ⟨hP1, hD1⟩ := hb
  rw [ht] at hP1
  exact K u hp H1 locs1 la hP1 hD1 hS1 hl
theorem am_vret (B : am_B M g cc nL own d kc ks) {post : va_W → Prop} {mc ms : Nat} (E : am_E M g post mc ms) (hk : k ≤ mc) (hs : sl ≤ ms) (hd : decode cc pc = .ok (.return_, 1)) (hp : post ws) : am_X M g nL pc ls [] ws k sl := by
  obtain ⟨p, l, e, R, s, m, args, below, meth, c', cells, slots, Q⟩ := M
  obtain ⟨e1, e2, rfl⟩ := E
  intro H locs la hP hD hS hl
  refine W.widen hk hs ?_
  exact W.vret B.1 B.2.1 e1 (fun t ht hW => ⟨⟨ws, rfl, hp, by rw [ht]; exact hP, hD⟩, hS.F ht⟩) hS.2.2 hd e2
/-- other words for the same cells -/
theorem am_conv {ws' : va_W} (h1 : ∀ H, va_P g.1 aw_cl ws H → va_P g.1 aw_cl ws' H) (h2 : va_D g.2.1 ws → va_D g.2.1 ws') (K : am_X M g nL pc ls st ws' k sl) : am_X M g nL pc ls st ws k sl := by
  obtain ⟨p, l, e, R, s, m, args, below, meth, c', cells, slots, Q⟩ := M
  intro H locs la hP hD hS hl
  exact K H locs la (h1 H hP) (h2 hD) hS hl
end AMX
/-- a constructor's contract from a walk of its body -/
theorem am_met {l : Launch} {g : am_G} {d nL mc ms : Nat} {y : MethodName} {cc : ByteArray} {as : List aw_V} {ws : va_W} {post : va_W → Prop} (hy : plainName y.cls = true) (hi : y.name = "<init>") (hn : as.length ≤ nL)
    (K : ∀ M : aw_M, M.2.1 = l → am_B M g cc nL y.cls d mc ms → am_N M → am_E M g post mc ms → am_X M g nL 0 (aw_in as nL) [] ws 0 0) : am_C l g d mc ms (y, cc, nL, none) as ws post := by
  refine Met.ofW (cc := cc) (maxL := nL) (ret := none) hy rfl ?_
  intro p e s m args below meth c s₁ B hml hv
  obtain ⟨rfl, hP, hK, hD, hA, hO⟩ := hv
  have hts := atoms_spec (ws := aw_ws (y, cc, nL, none)) B.pre
  have hown : s.vm.findClass y.cls = some m.cls := findClass_of_methodNamed B.named
  have hin : meth.name = "<init>" := (name_of_methodNamed B.named B.method).1.trans hi
  have hl := lv_entry (as.map (aw_c id)) (n := nL) (by rw [aw_slen]; exact hn)
  rw [lg_entry_eq]
  refine K (p, l, e, (headSpec (aw_ws (y, cc, nL, none)) (am_rm d mc ms)).room, s, m, (as.map (aw_c id)).toArray, below, meth, c, 0, 0, MQ below (am_Q g post) (as.map (aw_c id)).toArray s mc ms g.2.1) rfl ⟨B.exec, B.bytes, hml, hown, fun w hw => hts w (List.mem_cons_of_mem _ hw), hK, hA, Nat.le_refl d, Nat.le_refl (40 * d), Nat.le_refl mc, Nat.le_refl ms, hO⟩ hin ⟨B.returns, B.notSynchronized, rfl⟩ s.heap [] _ hP hD va_S.rf ⟨hl.1, hl.2.1, fun i v hi => ?_⟩
  have hi2 : as[i]? = some v := by
    unfold aw_in at hi
    by_cases hl : i < as.length
    · rw [List.getElem?_append_left (by rw [List.length_map]; exact hl), List.getElem?_map] at hi
      cases hg : as[i]? with
      | none => rw [hg] at hi; cases hi
      | some w => rw [hg] at hi; cases hi; rfl
    · rw [List.getElem?_append_right (by rw [List.length_map]; omega)] at hi
      have := List.mem_of_getElem? hi
      rw [List.mem_replicate] at this
      cases this.2
  have h3 := aw_args id as 0 i v hi2
  rw [Nat.zero_add] at h3
  exact hl.2.2 _ h3
