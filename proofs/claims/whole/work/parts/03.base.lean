/- THE ABSTRACT MACHINE over the kit. A world is a fixed number of cells at places 0, 1, 2 ..; G says how many, how many sectors,
   at which addresses, under which class numbers; its ints are a function h (place, slot); its references never change.
   aw_X M G nL pc ls st h: the machine at pc with locals ls, stack st, ints h comes to its end. Each row ax_.. is one instruction. -/
abbrev aw_V : Type := Option Nat ⊕ Int32
abbrev aw_H : Type := Nat → Nat → Int32
abbrev aw_M : Type := Program × Launch × Env × Room × State × MethodId × Array Value × List Frame × Method × Code × Nat × Nat × (State → Prop)
abbrev aw_G : Type := Nat × Nat × (Nat → Nat) × (Nat → ClassId) × va_G × (Nat → Prop)
abbrev aw_N (G : aw_G) : Nat := G.1
abbrev aw_n (G : aw_G) : Nat := G.2.1
abbrev aw_ad (G : aw_G) : Nat → Nat := G.2.2.1
abbrev aw_ca (G : aw_G) : Nat → ClassId := G.2.2.2.1
abbrev aw_D (G : aw_G) : va_G := G.2.2.2.2.1
abbrev aw_A (G : aw_G) : Nat → Prop := G.2.2.2.2.2
def aw_c (ad : Nat → Nat) (v : aw_V) : Value := match v with
  | .inl r => va_rf (r.map ad)
  | .inr x => .int x
def aw_fs (ad : Nat → Nat) (c : Nat) (r : Nat → Option Nat) (f : Nat → Int32) : List Value := (List.range (aw_nf c)).map (fun k => if aw_rf c k = true then va_rf ((r k).map ad) else .int (f k))
def aw_cell (ad : Nat → Nat) (ca : Nat → ClassId) (q : Nat × Nat) (r : Nat → Option Nat) (f : Nat → Int32) : va_E := match q.1 with
  | 0 => .inl (ca 0, q.2, .inl f)
  | 1 => .inl (ca 1, q.2, .inl f)
  | 2 => .inl (ca 2, q.2, .inr (.inr (.inr (.inr (fun j => (r j).map ad)))))
  | c + 3 => .inr (c, aw_fs ad c r f)
def aw_e (G : aw_G) (h : aw_H) (p : Nat) : va_E := aw_cell (aw_ad G) (aw_ca G) (aw_sh (aw_n G) p) (aw_rM p) (h p)
def aw_w (G : aw_G) (h : aw_H) : va_W := (List.range (aw_N G)).map (fun p => (aw_ad G p, aw_e G h p))
def aw_tys (G : aw_G) : List (ClassId × FieldType) := [(aw_ca G 0, .int), (aw_ca G 1, .boolean), (aw_ca G 2, .object aw_Nd)]
def aw_u (h : aw_H) (p k : Nat) (x : Int32) : aw_H := fun p' => if p' = p then upd (h p) k x else h p'
def aw_ok (G : aw_G) : Prop := (∀ i j, i < aw_N G → j < aw_N G → aw_ad G i = aw_ad G j → i = j) ∧ ∀ i, i < aw_N G → aw_A G (aw_ad G i)
def aw_l (ad : Nat → Nat) (nL : Nat) (la : Array Slot) (ls : List (Option aw_V)) : Prop := la.size = nL ∧ lv_wf la ∧ ∀ (i : Nat) (v : aw_V), ls[i]? = some (some v) → la[i]? = some (.val (aw_c ad v))
def aw_X (M : aw_M) (G : aw_G) (nL pc : Nat) (ls : List (Option aw_V)) (st : List aw_V) (h : aw_H) : Prop := match M with
  | (p, l, e, R, s, m, args, below, meth, c, cells, slots, Q) => ∀ (H : Heap) (locs : List Loc) (la : Array Slot), va_P (aw_D G) aw_cl (aw_w G h) H → va_S (aw_A G) s.heap H locs → aw_l (aw_ad G) nL la ls → W p l e R s m args below meth c H locs cells slots Q (F0 m pc la (st.map (aw_c (aw_ad G))))
def aw_B (M : aw_M) (G : aw_G) (cc : ByteArray) (nL : Nat) (own : String) (d : Nat) : Prop := match M with
  | (p, _, _, R, s, m, args, _, _, c, cells, slots, _) => p.tables.exec = Jvm.exec ∧ c.code = cc ∧ c.maxLocals = nL ∧ s.vm.findClass own = some m.cls ∧ (∀ w ∈ aw_Ts, w.before args s = true) ∧ va_K (aw_D G) aw_cl (aw_tys G) s ∧ aw_ok G ∧ d ≤ R.frames ∧ 40 * d ≤ R.locals ∧ cells ≤ R.cells ∧ slots ≤ R.slots
def aw_Q (G : aw_G) (post : Option aw_V → aw_H → Prop) : Array Value → State → Outcome → State → Prop := fun _ st oc t =>
  (∃ (r : Option aw_V) (h' : aw_H), oc = .returned (r.map (aw_c (aw_ad G))) ∧ post r h' ∧ va_P (aw_D G) aw_cl (aw_w G h') t.heap ∧ va_K (aw_D G) aw_cl (aw_tys G) t) ∧ va_F (aw_A G) st t
def aw_E (M : aw_M) (G : aw_G) (ret : Option FieldType) (post : Option aw_V → aw_H → Prop) : Prop := match M with
  | (_, _, _, _, s, _, args, below, meth, _, cells, slots, Q) => meth.sig.returnType = ret ∧ meth.locks = false ∧ Q = MQ below (aw_Q G post) args s cells slots (aw_A G)
def aw_rm (d : Nat) : Room := { frames := d, cells := 0, slots := 0, locals := 40 * d }
abbrev aw_Y : Type := MethodName × ByteArray × Nat × Option FieldType
def aw_ws (y : aw_Y) : List Cond := .code y.1 y.2.1 y.2.2.1 y.2.2.2 :: aw_Ts
def aw_Pc (G : aw_G) (args : List aw_V) (h : aw_H) : Array Value → State → Prop := va_Pc (args.map (aw_c (aw_ad G))) (fun U => va_P (aw_D G) aw_cl (aw_w G h) U.heap ∧ va_K (aw_D G) aw_cl (aw_tys G) U)
/-- method y's contract, calls at most d deep -/
def aw_C (l : Launch) (G : aw_G) (d : Nat) (y : aw_Y) (args : List aw_V) (h : aw_H) (post : Option aw_V → aw_H → Prop) : Prop :=
  Met l y.1 (aw_ws y) (aw_rm d) (aw_Pc G args h) (aw_Q G post) 0 0 (aw_A G)
theorem aw_cat (ad : Nat → Nat) (v : aw_V) : (aw_c ad v).category = 1 := by
  rcases v with (_ | p) | x <;> rfl
theorem aw_cats (ad : Nat → Nat) : ∀ st : List aw_V, ((st.map (aw_c ad)).map fun v => v.category).sum = st.length
  | [] => rfl
  | v :: st => by
    have h := aw_cats ad st
    simp only [List.map_cons, List.sum_cons, List.length_cons, aw_cat] at h ⊢
    omega
theorem aw_w_get {G : aw_G} {h : aw_H} {p : Nat} (hp : p < aw_N G) : (aw_w G h)[p]? = some (aw_ad G p, aw_e G h p) := by
  unfold aw_w
  rw [List.getElem?_map, List.getElem?_range hp]
  rfl
theorem aw_w_set {G : aw_G} {h h' : aw_H} {p : Nat} {e : va_E} (he : e = aw_e G h' p) (ho : ∀ q, q ≠ p → aw_e G h' q = aw_e G h q) : (aw_w G h).set p (aw_ad G p, e) = aw_w G h' := by
  apply List.ext_getElem?
  intro i
  by_cases hi : i < aw_N G
  · by_cases hip : i = p
    · subst hip
      have hl : i < (aw_w G h).length := by unfold aw_w; rw [List.length_map, List.length_range]; exact hi
      rw [List.getElem?_set_self hl, aw_w_get hi, he]
    · rw [List.getElem?_set_ne (Ne.symm hip), aw_w_get hi, aw_w_get hi, ho i hip]
  · have h1 : ∀ g : aw_H, (aw_w G g).length = aw_N G := fun g => by unfold aw_w; rw [List.length_map, List.length_range]
    rw [List.getElem?_eq_none (by rw [List.length_set, h1]; omega), List.getElem?_eq_none (by rw [h1]; omega)]
theorem aw_wD {G : aw_G} (hG : aw_ok G) (h : aw_H) : va_D (aw_A G) (aw_w G h) := by
  have key : ∀ (i : Nat) (q : Nat × va_E), (aw_w G h)[i]? = some q → i < aw_N G ∧ q.1 = aw_ad G i := by
    intro i q hq
    have hi : i < (aw_w G h).length := (List.getElem?_eq_some_iff.mp hq).1
    have hi : i < aw_N G := by unfold aw_w at hi; rw [List.length_map, List.length_range] at hi; exact hi
    rw [aw_w_get hi] at hq
    cases hq
    exact ⟨hi, rfl⟩
  refine ⟨fun i j p q hp hq hpq => ?_, fun k q hq => ?_⟩
  · obtain ⟨h1, h2⟩ := key i p hp
    obtain ⟨h3, h4⟩ := key j q hq
    exact hG.1 i j h1 h3 (by rw [← h2, ← h4]; exact hpq)
  · obtain ⟨h1, h2⟩ := key k q hq
    rw [h2]
    exact hG.2 k h1
theorem aw_u_ne {h : aw_H} {p k q : Nat} {x : Int32} (hq : q ≠ p) : aw_u h p k x q = h q := if_neg hq
theorem aw_u_eq {h : aw_H} {p k : Nat} {x : Int32} : aw_u h p k x p = upd (h p) k x := if_pos rfl
theorem aw_e_ne {G : aw_G} {h : aw_H} {p k q : Nat} {x : Int32} (hq : q ≠ p) : aw_e G (aw_u h p k x) q = aw_e G h q := by
  unfold aw_e
  rw [aw_u_ne hq]
def aw_ll (ad : Nat → Nat) (ls : List (Option aw_V)) : List (Nat × Value) := (List.range ls.length).filterMap (fun i => match ls[i]? with
  | some (some v) => some (i, aw_c ad v)
  | _ => none)
theorem aw_ll_mem {ad : Nat → Nat} {ls : List (Option aw_V)} {i : Nat} {v : aw_V} (h : ls[i]? = some (some v)) : (i, aw_c ad v) ∈ aw_ll ad ls := by
  unfold aw_ll
  rw [List.mem_filterMap]
  exact ⟨i, List.mem_range.mpr (List.getElem?_eq_some_iff.mp h).1, by rw [h]⟩
theorem aw_l.has {ad : Nat → Nat} {nL : Nat} {la : Array Slot} {ls : List (Option aw_V)} (h : aw_l ad nL la ls) : lv_has la nL (aw_ll ad ls) := by
  refine ⟨h.1, h.2.1, fun q hq => ?_⟩
  unfold aw_ll at hq
  rw [List.mem_filterMap] at hq
  obtain ⟨i, -, hi⟩ := hq
  split at hi
  · rename_i v hv
    cases hi
    exact h.2.2 _ _ hv
  · cases hi
theorem aw_l.st {ad : Nat → Nat} {nL i : Nat} {la' : Array Slot} {ls : List (Option aw_V)} {v : aw_V} (h : lv_has la' nL ((i, aw_c ad v) :: (aw_ll ad ls).filter (fun q => !(q.1 == i) && !(q.1 + 1 == i && q.2.category == 2)))) : aw_l ad nL la' (ls.set i (some v)) := by
  refine ⟨h.1, h.2.1, fun j w hw => ?_⟩
  by_cases hj : j = i
  · subst hj
    have hl : j < (ls.set j (some v)).length := (List.getElem?_eq_some_iff.mp hw).1
    rw [List.length_set] at hl
    rw [List.getElem?_set_self hl] at hw
    cases hw
    exact h.2.2 (j, aw_c ad v) List.mem_cons_self
  · rw [List.getElem?_set_ne (Ne.symm hj)] at hw
    refine h.2.2 (j, aw_c ad w) (List.mem_cons_of_mem _ (List.mem_filter.mpr ⟨aw_ll_mem hw, ?_⟩))
    simp [hj, aw_cat]
theorem aw_l.less {ad : Nat → Nat} {nL : Nat} {la : Array Slot} {ls ls' : List (Option aw_V)} (h : aw_l ad nL la ls) (hl : ∀ (i : Nat) (v : aw_V), ls'[i]? = some (some v) → ls[i]? = some (some v)) : aw_l ad nL la ls' := ⟨h.1, h.2.1, fun i v hv => h.2.2 i v (hl i v hv)⟩
section AX
variable {M : aw_M} {G : aw_G} {cc : ByteArray} {nL d pc q : Nat} {own : String} {ls : List (Option aw_V)} {st : List aw_V} {h : aw_H}
/-- fewer locals are known -/
theorem ax_less {ls' : List (Option aw_V)} (hl : ∀ (i : Nat) (v : aw_V), ls'[i]? = some (some v) → ls[i]? = some (some v)) (k : aw_X M G nL pc ls' st h) : aw_X M G nL pc ls st h := by
  obtain ⟨p, l, e, R, s, m, args, below, meth, c, cells, slots, Q⟩ := M
  intro H locs la hP hS hla
  exact k H locs la hP hS (hla.less hl)
theorem ax_iconst (B : aw_B M G cc nL own d) {n : Int} {v : Int32} (hd : decode cc pc = .ok (.iconst n, 1)) (hv : Int32.ofInt n = v) (hq : pc + 1 = q) (k : aw_X M G nL q ls (.inr v :: st) h) : aw_X M G nL pc ls st h := by
  obtain ⟨p, l, e, R, s, m, args, below, meth, c, cells, slots, Q⟩ := M
  subst hq
  intro H locs la hP hS hl
  exact lv_iconst B.1 B.2.1 hd hv (k H locs la hP hS hl)
theorem ax_bipush (B : aw_B M G cc nL own d) {n : Int} {v : Int32} (hd : decode cc pc = .ok (.bipush n, 2)) (hv : (Int8.ofInt n).toInt32 = v) (hq : pc + 2 = q) (k : aw_X M G nL q ls (.inr v :: st) h) : aw_X M G nL pc ls st h := by
  obtain ⟨p, l, e, R, s, m, args, below, meth, c, cells, slots, Q⟩ := M
  subst hq
  intro H locs la hP hS hl
  exact lv_bipush B.1 B.2.1 hd hv (k H locs la hP hS hl)
theorem ax_sipush (B : aw_B M G cc nL own d) {n : Int} {v : Int32} (hd : decode cc pc = .ok (.sipush n, 3)) (hv : (Int16.ofInt n).toInt32 = v) (hq : pc + 3 = q) (k : aw_X M G nL q ls (.inr v :: st) h) : aw_X M G nL pc ls st h := by
  obtain ⟨p, l, e, R, s, m, args, below, meth, c, cells, slots, Q⟩ := M
  subst hq
  intro H locs la hP hS hl
  exact lv_sipush B.1 B.2.1 hd hv (k H locs la hP hS hl)
theorem ax_ldc (B : aw_B M G cc nL own d) {ix : Nat} {v : Int32} (hw : Cond.constant own ix v ∈ aw_Ts) (hd : decode cc pc = .ok (.ldc ix, 2)) (hq : pc + 2 = q) (k : aw_X M G nL q ls (.inr v :: st) h) : aw_X M G nL pc ls st h := by
  obtain ⟨p, l, e, R, s, m, args, below, meth, c, cells, slots, Q⟩ := M
  subst hq
  intro H locs la hP hS hl
  exact lv_ldc B.1 B.2.1 B.2.2.2.1 (B.2.2.2.2.1 _ hw) hd (k H locs la hP hS hl)
theorem ax_null (B : aw_B M G cc nL own d) (hd : decode cc pc = .ok (.aconst_null, 1)) (hq : pc + 1 = q) (k : aw_X M G nL q ls (.inl none :: st) h) : aw_X M G nL pc ls st h := by
  obtain ⟨p, l, e, R, s, m, args, below, meth, c, cells, slots, Q⟩ := M
  subst hq
  intro H locs la hP hS hl
  exact lv_null B.1 B.2.1 hd (k H locs la hP hS hl)
theorem ax_iload_n (B : aw_B M G cc nL own d) {j : Fin 4} {i : Nat} {x : Int32} (hd : decode cc pc = .ok (.iload_n j, 1)) (hi : (j : Nat) = i) (hx : ls[i]? = some (some (.inr x))) (hq : pc + 1 = q) (k : aw_X M G nL q ls (.inr x :: st) h) : aw_X M G nL pc ls st h := by
  obtain ⟨p, l, e, R, s, m, args, below, meth, c, cells, slots, Q⟩ := M
  subst hq
  intro H locs la hP hS hl
  exact lv_iload_n B.1 B.2.1 hd hi (hl.2.2 _ _ hx) (k H locs la hP hS hl)
theorem ax_iload (B : aw_B M G cc nL own d) {i : Nat} {x : Int32} (hd : decode cc pc = .ok (.iload i, 2)) (hx : ls[i]? = some (some (.inr x))) (hq : pc + 2 = q) (k : aw_X M G nL q ls (.inr x :: st) h) : aw_X M G nL pc ls st h := by
  obtain ⟨p, l, e, R, s, m, args, below, meth, c, cells, slots, Q⟩ := M
  subst hq
  intro H locs la hP hS hl
  exact lv_iload B.1 B.2.1 hd (hl.2.2 _ _ hx) (k H locs la hP hS hl)
theorem ax_aload_n (B : aw_B M G cc nL own d) {j : Fin 4} {i : Nat} {r : Option Nat} (hd : decode cc pc = .ok (.aload_n j, 1)) (hi : (j : Nat) = i) (hx : ls[i]? = some (some (.inl r))) (hq : pc + 1 = q) (k : aw_X M G nL q ls (.inl r :: st) h) : aw_X M G nL pc ls st h := by
  obtain ⟨p, l, e, R, s, m, args, below, meth, c, cells, slots, Q⟩ := M
  subst hq
  intro H locs la hP hS hl
  have h1 := hl.2.2 _ _ hx
  cases r with
  | none => exact lv_aload_nN B.1 B.2.1 hd hi h1 (k H locs la hP hS hl)
  | some a => exact lv_aload_n B.1 B.2.1 hd hi h1 (k H locs la hP hS hl)
theorem ax_aload (B : aw_B M G cc nL own d) {i : Nat} {r : Option Nat} (hd : decode cc pc = .ok (.aload i, 2)) (hx : ls[i]? = some (some (.inl r))) (hq : pc + 2 = q) (k : aw_X M G nL q ls (.inl r :: st) h) : aw_X M G nL pc ls st h := by
  obtain ⟨p, l, e, R, s, m, args, below, meth, c, cells, slots, Q⟩ := M
  subst hq
  intro H locs la hP hS hl
  have h1 := hl.2.2 _ _ hx
  cases r with
  | none => exact lv_aloadN B.1 B.2.1 hd h1 (k H locs la hP hS hl)
  | some a => exact lv_aload B.1 B.2.1 hd h1 (k H locs la hP hS hl)
theorem ax_istore_n (B : aw_B M G cc nL own d) {j : Fin 4} {i : Nat} {x : Int32} (hd : decode cc pc = .ok (.istore_n j, 1)) (hi : (j : Nat) = i) (hn : i < nL) (hq : pc + 1 = q) (k : aw_X M G nL q (ls.set i (some (.inr x))) st h) : aw_X M G nL pc ls (.inr x :: st) h := by
  obtain ⟨p, l, e, R, s, m, args, below, meth, c, cells, slots, Q⟩ := M
  subst hq
  intro H locs la hP hS hl
  exact lv_istore_n B.1 B.2.1 hd hi hl.has hn rfl (fun la' h' => k H locs la' hP hS (aw_l.st (v := .inr x) h'))
theorem ax_istore (B : aw_B M G cc nL own d) {i : Nat} {x : Int32} (hd : decode cc pc = .ok (.istore i, 2)) (hn : i < nL) (hq : pc + 2 = q) (k : aw_X M G nL q (ls.set i (some (.inr x))) st h) : aw_X M G nL pc ls (.inr x :: st) h := by
  obtain ⟨p, l, e, R, s, m, args, below, meth, c, cells, slots, Q⟩ := M
  subst hq
  intro H locs la hP hS hl
  exact lv_istore B.1 B.2.1 hd hl.has hn rfl (fun la' h' => k H locs la' hP hS (aw_l.st (v := .inr x) h'))
theorem ax_astore_n (B : aw_B M G cc nL own d) {j : Fin 4} {i : Nat} {r : Option Nat} (hd : decode cc pc = .ok (.astore_n j, 1)) (hi : (j : Nat) = i) (hn : i < nL) (hq : pc + 1 = q) (k : aw_X M G nL q (ls.set i (some (.inl r))) st h) : aw_X M G nL pc ls (.inl r :: st) h := by
  obtain ⟨p, l, e, R, s, m, args, below, meth, c, cells, slots, Q⟩ := M
  subst hq
  intro H locs la hP hS hl
  cases r with
  | none => exact lv_astore_nN B.1 B.2.1 hd hi hl.has hn rfl (fun la' h' => k H locs la' hP hS (aw_l.st (v := .inl none) h'))
  | some a => exact lv_astore_n B.1 B.2.1 hd hi hl.has hn rfl (fun la' h' => k H locs la' hP hS (aw_l.st (v := .inl (some a)) h'))
theorem ax_astore (B : aw_B M G cc nL own d) {i : Nat} {r : Option Nat} (hd : decode cc pc = .ok (.astore i, 2)) (hn : i < nL) (hq : pc + 2 = q) (k : aw_X M G nL q (ls.set i (some (.inl r))) st h) : aw_X M G nL pc ls (.inl r :: st) h := by
  obtain ⟨p, l, e, R, s, m, args, below, meth, c, cells, slots, Q⟩ := M
  subst hq
  intro H locs la hP hS hl
  cases r with
  | none => exact lv_astoreN B.1 B.2.1 hd hl.has hn rfl (fun la' h' => k H locs la' hP hS (aw_l.st (v := .inl none) h'))
  | some a => exact lv_astore B.1 B.2.1 hd hl.has hn rfl (fun la' h' => k H locs la' hP hS (aw_l.st (v := .inl (some a)) h'))
theorem ax_iinc (B : aw_B M G cc nL own d) {i : Nat} {n : Int} {x v : Int32} (hd : decode cc pc = .ok (.iinc i n, 3)) (hx : ls[i]? = some (some (.inr x))) (hv : x + Int32.ofInt n = v) (hn : i < nL) (hq : pc + 3 = q) (k : aw_X M G nL q (ls.set i (some (.inr v))) st h) : aw_X M G nL pc ls st h := by
  obtain ⟨p, l, e, R, s, m, args, below, meth, c, cells, slots, Q⟩ := M
  subst hq
  intro H locs la hP hS hl
  obtain ⟨j, hj⟩ := List.getElem?_of_mem (aw_ll_mem (ad := aw_ad G) hx)
  exact lv_iinc B.1 B.2.1 hd hl.has hj hv hn rfl (fun la' h' => k H locs la' hP hS (aw_l.st (v := .inr v) h'))
theorem ax_dup (B : aw_B M G cc nL own d) {v : aw_V} (hd : decode cc pc = .ok (.dup, 1)) (hq : pc + 1 = q) (k : aw_X M G nL q ls (v :: v :: st) h) : aw_X M G nL pc ls (v :: st) h := by
  obtain ⟨p, l, e, R, s, m, args, below, meth, c, cells, slots, Q⟩ := M
  subst hq
  intro H locs la hP hS hl
  exact lv_dup B.1 B.2.1 hd (aw_cat _ _) (k H locs la hP hS hl)
theorem ax_dup2 (B : aw_B M G cc nL own d) {v w : aw_V} (hd : decode cc pc = .ok (.dup2, 1)) (hq : pc + 1 = q) (k : aw_X M G nL q ls (v :: w :: v :: w :: st) h) : aw_X M G nL pc ls (v :: w :: st) h := by
  obtain ⟨p, l, e, R, s, m, args, below, meth, c, cells, slots, Q⟩ := M
  subst hq
  intro H locs la hP hS hl
  exact lv_dup2_11 B.1 B.2.1 hd (aw_cat _ _) (aw_cat _ _) (k H locs la hP hS hl)
theorem ax_pop (B : aw_B M G cc nL own d) {v : aw_V} (hd : decode cc pc = .ok (.pop, 1)) (hq : pc + 1 = q) (k : aw_X M G nL q ls st h) : aw_X M G nL pc ls (v :: st) h := by
  obtain ⟨p, l, e, R, s, m, args, below, meth, c, cells, slots, Q⟩ := M
  subst hq
  intro H locs la hP hS hl
  exact lv_pop B.1 B.2.1 hd (aw_cat _ _) (k H locs la hP hS hl)
theorem ax_goto (B : aw_B M G cc nL own d) {off : Int} (hd : decode cc pc = .ok (.goto off, 3)) (hq : (pc : Int) + off = (q : Int)) (k : aw_X M G nL q ls st h) : aw_X M G nL pc ls st h := by
  obtain ⟨p, l, e, R, s, m, args, below, meth, c, cells, slots, Q⟩ := M
  intro H locs la hP hS hl
  exact lv_goto B.1 B.2.1 hd hq (k H locs la hP hS hl)
theorem ax_ifnull (B : aw_B M G cc nL own d) {off : Int} {r : Option Nat} {q2 : Nat} (hd : decode cc pc = .ok (.ifnull off, 3)) (hq : (pc : Int) + off = (q : Int)) (hq2 : pc + 3 = q2) (kt : r = none → aw_X M G nL q ls st h) (kf : ∀ a, r = some a → aw_X M G nL q2 ls st h) : aw_X M G nL pc ls (.inl r :: st) h := by
  obtain ⟨p, l, e, R, s, m, args, below, meth, c, cells, slots, Q⟩ := M
  subst hq2
  intro H locs la hP hS hl
  cases r with
  | none => exact lv_ifnullN B.1 B.2.1 hd hq (kt rfl H locs la hP hS hl)
  | some a => exact lv_ifnull B.1 B.2.1 hd (kf a rfl H locs la hP hS hl)
theorem ax_ifnonnull (B : aw_B M G cc nL own d) {off : Int} {r : Option Nat} {q2 : Nat} (hd : decode cc pc = .ok (.ifnonnull off, 3)) (hq : (pc : Int) + off = (q : Int)) (hq2 : pc + 3 = q2) (kt : ∀ a, r = some a → aw_X M G nL q ls st h) (kf : r = none → aw_X M G nL q2 ls st h) : aw_X M G nL pc ls (.inl r :: st) h := by
  obtain ⟨p, l, e, R, s, m, args, below, meth, c, cells, slots, Q⟩ := M
  subst hq2
  intro H locs la hP hS hl
  cases r with
  | none => exact lv_ifnonnullN B.1 B.2.1 hd (kf rfl H locs la hP hS hl)
  | some a => exact lv_ifnonnull B.1 B.2.1 hd hq (kt a rfl H locs la hP hS hl)
theorem ax_iadd (B : aw_B M G cc nL own d) {x y : Int32} (hd : decode cc pc = .ok (.iadd, 1)) (hq : pc + 1 = q) (k : aw_X M G nL q ls (.inr (x + y) :: st) h) : aw_X M G nL pc ls (.inr y :: .inr x :: st) h := by
  obtain ⟨p, l, e, R, s, m, args, below, meth, c, cells, slots, Q⟩ := M
  subst hq
  intro H locs la hP hS hl
  exact lv_iadd B.1 B.2.1 hd (k H locs la hP hS hl)
theorem ax_isub (B : aw_B M G cc nL own d) {x y : Int32} (hd : decode cc pc = .ok (.isub, 1)) (hq : pc + 1 = q) (k : aw_X M G nL q ls (.inr (x - y) :: st) h) : aw_X M G nL pc ls (.inr y :: .inr x :: st) h := by
  obtain ⟨p, l, e, R, s, m, args, below, meth, c, cells, slots, Q⟩ := M
  subst hq
  intro H locs la hP hS hl
  exact lv_isub B.1 B.2.1 hd (k H locs la hP hS hl)
theorem ax_imul (B : aw_B M G cc nL own d) {x y : Int32} (hd : decode cc pc = .ok (.imul, 1)) (hq : pc + 1 = q) (k : aw_X M G nL q ls (.inr (x * y) :: st) h) : aw_X M G nL pc ls (.inr y :: .inr x :: st) h := by
  obtain ⟨p, l, e, R, s, m, args, below, meth, c, cells, slots, Q⟩ := M
  subst hq
  intro H locs la hP hS hl
  exact lv_imul B.1 B.2.1 hd (k H locs la hP hS hl)
theorem ax_iand (B : aw_B M G cc nL own d) {x y : Int32} (hd : decode cc pc = .ok (.iand, 1)) (hq : pc + 1 = q) (k : aw_X M G nL q ls (.inr (x &&& y) :: st) h) : aw_X M G nL pc ls (.inr y :: .inr x :: st) h := by
  obtain ⟨p, l, e, R, s, m, args, below, meth, c, cells, slots, Q⟩ := M
  subst hq
  intro H locs la hP hS hl
  exact lv_iand B.1 B.2.1 hd (k H locs la hP hS hl)
theorem ax_ior (B : aw_B M G cc nL own d) {x y : Int32} (hd : decode cc pc = .ok (.ior, 1)) (hq : pc + 1 = q) (k : aw_X M G nL q ls (.inr (x ||| y) :: st) h) : aw_X M G nL pc ls (.inr y :: .inr x :: st) h := by
  obtain ⟨p, l, e, R, s, m, args, below, meth, c, cells, slots, Q⟩ := M
  subst hq
  intro H locs la hP hS hl
  exact lv_ior B.1 B.2.1 hd (k H locs la hP hS hl)
theorem ax_ixor (B : aw_B M G cc nL own d) {x y : Int32} (hd : decode cc pc = .ok (.ixor, 1)) (hq : pc + 1 = q) (k : aw_X M G nL q ls (.inr (x ^^^ y) :: st) h) : aw_X M G nL pc ls (.inr y :: .inr x :: st) h := by
  obtain ⟨p, l, e, R, s, m, args, below, meth, c, cells, slots, Q⟩ := M
  subst hq
  intro H locs la hP hS hl
  exact lv_ixor B.1 B.2.1 hd (k H locs la hP hS hl)
theorem ax_ishl (B : aw_B M G cc nL own d) {x y : Int32} (hd : decode cc pc = .ok (.ishl, 1)) (hq : pc + 1 = q) (k : aw_X M G nL q ls (.inr (x <<< (y &&& 31)) :: st) h) : aw_X M G nL pc ls (.inr y :: .inr x :: st) h := by
  obtain ⟨p, l, e, R, s, m, args, below, meth, c, cells, slots, Q⟩ := M
  subst hq
  intro H locs la hP hS hl
  exact lv_ishl B.1 B.2.1 hd (k H locs la hP hS hl)
theorem ax_ishr (B : aw_B M G cc nL own d) {x y : Int32} (hd : decode cc pc = .ok (.ishr, 1)) (hq : pc + 1 = q) (k : aw_X M G nL q ls (.inr (x >>> (y &&& 31)) :: st) h) : aw_X M G nL pc ls (.inr y :: .inr x :: st) h := by
  obtain ⟨p, l, e, R, s, m, args, below, meth, c, cells, slots, Q⟩ := M
  subst hq
  intro H locs la hP hS hl
  exact lv_ishr B.1 B.2.1 hd (k H locs la hP hS hl)
theorem ax_idiv (B : aw_B M G cc nL own d) {x y : Int32} (hd : decode cc pc = .ok (.idiv, 1)) (hy : ¬ y = 0) (hq : pc + 1 = q) (k : aw_X M G nL q ls (.inr (x / y) :: st) h) : aw_X M G nL pc ls (.inr y :: .inr x :: st) h := by
  obtain ⟨p, l, e, R, s, m, args, below, meth, c, cells, slots, Q⟩ := M
  subst hq
  intro H locs la hP hS hl
  exact lv_idiv B.1 B.2.1 hd hy (k H locs la hP hS hl)
theorem ax_irem (B : aw_B M G cc nL own d) {x y : Int32} (hd : decode cc pc = .ok (.irem, 1)) (hy : ¬ y = 0) (hq : pc + 1 = q) (k : aw_X M G nL q ls (.inr (x - x / y * y) :: st) h) : aw_X M G nL pc ls (.inr y :: .inr x :: st) h := by
  obtain ⟨p, l, e, R, s, m, args, below, meth, c, cells, slots, Q⟩ := M
  subst hq
  intro H locs la hP hS hl
  exact lv_irem B.1 B.2.1 hd hy (k H locs la hP hS hl)
theorem ax_iushr (B : aw_B M G cc nL own d) {x y : Int32} (hd : decode cc pc = .ok (.iushr, 1)) (hq : pc + 1 = q) (k : aw_X M G nL q ls (.inr ((x.toUInt32 >>> (y.toUInt32 &&& Int32.toUInt32 31)).toInt32) :: st) h) : aw_X M G nL pc ls (.inr y :: .inr x :: st) h := by
  obtain ⟨p, l, e, R, s, m, args, below, meth, c, cells, slots, Q⟩ := M
  subst hq
  intro H locs la hP hS hl
  exact lv_iushr B.1 B.2.1 hd rfl (k H locs la hP hS hl)
theorem ax_if_eq (B : aw_B M G cc nL own d) {x : Int32} {off : Int} {q2 : Nat} (hd : decode cc pc = .ok (.ifCond .eq off, 3)) (hq : (pc : Int) + off = (q : Int)) (hq2 : pc + 3 = q2) (kt : x = 0 → aw_X M G nL q ls st h) (kf : ¬ x = 0 → aw_X M G nL q2 ls st h) : aw_X M G nL pc ls (.inr x :: st) h := by
  obtain ⟨p, l, e, R, s, m, args, below, meth, c, cells, slots, Q⟩ := M
  subst hq2
  intro H locs la hP hS hl
  exact lv_if_eq B.1 B.2.1 hd hq (fun z => kt z H locs la hP hS hl) (fun z => kf z H locs la hP hS hl)
theorem ax_if_ne (B : aw_B M G cc nL own d) {x : Int32} {off : Int} {q2 : Nat} (hd : decode cc pc = .ok (.ifCond .ne off, 3)) (hq : (pc : Int) + off = (q : Int)) (hq2 : pc + 3 = q2) (kt : ¬ x = 0 → aw_X M G nL q ls st h) (kf : x = 0 → aw_X M G nL q2 ls st h) : aw_X M G nL pc ls (.inr x :: st) h := by
  obtain ⟨p, l, e, R, s, m, args, below, meth, c, cells, slots, Q⟩ := M
  subst hq2
  intro H locs la hP hS hl
  exact lv_if_ne B.1 B.2.1 hd hq (fun z => kt z H locs la hP hS hl) (fun z => kf z H locs la hP hS hl)
theorem ax_if_lt (B : aw_B M G cc nL own d) {x : Int32} {off : Int} {q2 : Nat} (hd : decode cc pc = .ok (.ifCond .lt off, 3)) (hq : (pc : Int) + off = (q : Int)) (hq2 : pc + 3 = q2) (kt : x < 0 → aw_X M G nL q ls st h) (kf : ¬ x < 0 → aw_X M G nL q2 ls st h) : aw_X M G nL pc ls (.inr x :: st) h := by
  obtain ⟨p, l, e, R, s, m, args, below, meth, c, cells, slots, Q⟩ := M
  subst hq2
  intro H locs la hP hS hl
  exact lv_if_lt B.1 B.2.1 hd hq (fun z => kt z H locs la hP hS hl) (fun z => kf z H locs la hP hS hl)
theorem ax_if_ge (B : aw_B M G cc nL own d) {x : Int32} {off : Int} {q2 : Nat} (hd : decode cc pc = .ok (.ifCond .ge off, 3)) (hq : (pc : Int) + off = (q : Int)) (hq2 : pc + 3 = q2) (kt : 0 ≤ x → aw_X M G nL q ls st h) (kf : ¬ 0 ≤ x → aw_X M G nL q2 ls st h) : aw_X M G nL pc ls (.inr x :: st) h := by
  obtain ⟨p, l, e, R, s, m, args, below, meth, c, cells, slots, Q⟩ := M
  subst hq2
  intro H locs la hP hS hl
  exact lv_if_ge B.1 B.2.1 hd hq (fun z => kt z H locs la hP hS hl) (fun z => kf z H locs la hP hS hl)
theorem ax_if_gt (B : aw_B M G cc nL own d) {x : Int32} {off : Int} {q2 : Nat} (hd : decode cc pc = .ok (.ifCond .gt off, 3)) (hq : (pc : Int) + off = (q : Int)) (hq2 : pc + 3 = q2) (kt : 0 < x → aw_X M G nL q ls st h) (kf : ¬ 0 < x → aw_X M G nL q2 ls st h) : aw_X M G nL pc ls (.inr x :: st) h := by
  obtain ⟨p, l, e, R, s, m, args, below, meth, c, cells, slots, Q⟩ := M
  subst hq2
  intro H locs la hP hS hl
  exact lv_if_gt B.1 B.2.1 hd hq (fun z => kt z H locs la hP hS hl) (fun z => kf z H locs la hP hS hl)
theorem ax_if_le (B : aw_B M G cc nL own d) {x : Int32} {off : Int} {q2 : Nat} (hd : decode cc pc = .ok (.ifCond .le off, 3)) (hq : (pc : Int) + off = (q : Int)) (hq2 : pc + 3 = q2) (kt : x ≤ 0 → aw_X M G nL q ls st h) (kf : ¬ x ≤ 0 → aw_X M G nL q2 ls st h) : aw_X M G nL pc ls (.inr x :: st) h := by
  obtain ⟨p, l, e, R, s, m, args, below, meth, c, cells, slots, Q⟩ := M
  subst hq2
  intro H locs la hP hS hl
  exact lv_if_le B.1 B.2.1 hd hq (fun z => kt z H locs la hP hS hl) (fun z => kf z H locs la hP hS hl)
theorem ax_icmp_eq (B : aw_B M G cc nL own d) {x y : Int32} {off : Int} {q2 : Nat} (hd : decode cc pc = .ok (.if_icmp .eq off, 3)) (hq : (pc : Int) + off = (q : Int)) (hq2 : pc + 3 = q2) (kt : x = y → aw_X M G nL q ls st h) (kf : ¬ x = y → aw_X M G nL q2 ls st h) : aw_X M G nL pc ls (.inr y :: .inr x :: st) h := by
  obtain ⟨p, l, e, R, s, m, args, below, meth, c, cells, slots, Q⟩ := M
  subst hq2
  intro H locs la hP hS hl
  exact lv_icmp_eq B.1 B.2.1 hd hq (fun z => kt z H locs la hP hS hl) (fun z => kf z H locs la hP hS hl)
theorem ax_icmp_ne (B : aw_B M G cc nL own d) {x y : Int32} {off : Int} {q2 : Nat} (hd : decode cc pc = .ok (.if_icmp .ne off, 3)) (hq : (pc : Int) + off = (q : Int)) (hq2 : pc + 3 = q2) (kt : ¬ x = y → aw_X M G nL q ls st h) (kf : x = y → aw_X M G nL q2 ls st h) : aw_X M G nL pc ls (.inr y :: .inr x :: st) h := by
  obtain ⟨p, l, e, R, s, m, args, below, meth, c, cells, slots, Q⟩ := M
  subst hq2
  intro H locs la hP hS hl
  exact lv_icmp_ne B.1 B.2.1 hd hq (fun z => kt z H locs la hP hS hl) (fun z => kf z H locs la hP hS hl)
theorem ax_icmp_lt (B : aw_B M G cc nL own d) {x y : Int32} {off : Int} {q2 : Nat} (hd : decode cc pc = .ok (.if_icmp .lt off, 3)) (hq : (pc : Int) + off = (q : Int)) (hq2 : pc + 3 = q2) (kt : x < y → aw_X M G nL q ls st h) (kf : ¬ x < y → aw_X M G nL q2 ls st h) : aw_X M G nL pc ls (.inr y :: .inr x :: st) h := by
  obtain ⟨p, l, e, R, s, m, args, below, meth, c, cells, slots, Q⟩ := M
  subst hq2
  intro H locs la hP hS hl
  exact lv_icmp_lt B.1 B.2.1 hd hq (fun z => kt z H locs la hP hS hl) (fun z => kf z H locs la hP hS hl)
theorem ax_icmp_ge (B : aw_B M G cc nL own d) {x y : Int32} {off : Int} {q2 : Nat} (hd : decode cc pc = .ok (.if_icmp .ge off, 3)) (hq : (pc : Int) + off = (q : Int)) (hq2 : pc + 3 = q2) (kt : y ≤ x → aw_X M G nL q ls st h) (kf : ¬ y ≤ x → aw_X M G nL q2 ls st h) : aw_X M G nL pc ls (.inr y :: .inr x :: st) h := by
  obtain ⟨p, l, e, R, s, m, args, below, meth, c, cells, slots, Q⟩ := M
  subst hq2
  intro H locs la hP hS hl
  exact lv_icmp_ge B.1 B.2.1 hd hq (fun z => kt z H locs la hP hS hl) (fun z => kf z H locs la hP hS hl)
theorem ax_icmp_gt (B : aw_B M G cc nL own d) {x y : Int32} {off : Int} {q2 : Nat} (hd : decode cc pc = .ok (.if_icmp .gt off, 3)) (hq : (pc : Int) + off = (q : Int)) (hq2 : pc + 3 = q2) (kt : y < x → aw_X M G nL q ls st h) (kf : ¬ y < x → aw_X M G nL q2 ls st h) : aw_X M G nL pc ls (.inr y :: .inr x :: st) h := by
  obtain ⟨p, l, e, R, s, m, args, below, meth, c, cells, slots, Q⟩ := M
  subst hq2
  intro H locs la hP hS hl
  exact lv_icmp_gt B.1 B.2.1 hd hq (fun z => kt z H locs la hP hS hl) (fun z => kf z H locs la hP hS hl)
theorem ax_icmp_le (B : aw_B M G cc nL own d) {x y : Int32} {off : Int} {q2 : Nat} (hd : decode cc pc = .ok (.if_icmp .le off, 3)) (hq : (pc : Int) + off = (q : Int)) (hq2 : pc + 3 = q2) (kt : x ≤ y → aw_X M G nL q ls st h) (kf : ¬ x ≤ y → aw_X M G nL q2 ls st h) : aw_X M G nL pc ls (.inr y :: .inr x :: st) h := by
  obtain ⟨p, l, e, R, s, m, args, below, meth, c, cells, slots, Q⟩ := M
  subst hq2
  intro H locs la hP hS hl
  exact lv_icmp_le B.1 B.2.1 hd hq (fun z => kt z H locs la hP hS hl) (fun z => kf z H locs la hP hS hl)
theorem aw_e_obj {G : aw_G} {h : aw_H} {a c : Nat} (hs : (aw_sh (aw_n G) a).1 = c + 3) : aw_e G h a = .inr (c, aw_fs (aw_ad G) c (aw_rM a) (h a)) := by
  unfold aw_e aw_cell
  rw [hs]
theorem aw_e_arr {G : aw_G} {h : aw_H} {a z : Nat} (hs : aw_sh (aw_n G) a = (0, z)) : aw_e G h a = .inl (aw_ca G 0, z, .inl (h a)) := by
  unfold aw_e aw_cell
  rw [hs]
theorem aw_e_arz {G : aw_G} {h : aw_H} {a z : Nat} (hs : aw_sh (aw_n G) a = (1, z)) : aw_e G h a = .inl (aw_ca G 1, z, .inl (h a)) := by
  unfold aw_e aw_cell
  rw [hs]
theorem aw_e_arq {G : aw_G} {h : aw_H} {a z : Nat} (hs : aw_sh (aw_n G) a = (2, z)) : aw_e G h a = .inl (aw_ca G 2, z, .inr (.inr (.inr (.inr (fun j => (aw_rM a j).map (aw_ad G)))))) := by
  unfold aw_e aw_cell
  rw [hs]
theorem aw_fs_get {ad : Nat → Nat} {c k : Nat} {r : Nat → Option Nat} {f : Nat → Int32} (hk : k < aw_nf c) : (aw_fs ad c r f)[k]? = some (if aw_rf c k = true then va_rf ((r k).map ad) else .int (f k)) := by
  unfold aw_fs
  rw [List.getElem?_map, List.getElem?_range hk]
  rfl
theorem aw_fs_set {ad : Nat → Nat} {c k : Nat} {r : Nat → Option Nat} {f : Nat → Int32} {x : Int32} (hr : aw_rf c k = false) : (aw_fs ad c r f).set k (.int x) = aw_fs ad c r (upd f k x) := by
  have hl : ∀ g : Nat → Int32, (aw_fs ad c r g).length = aw_nf c := fun g => by unfold aw_fs; rw [List.length_map, List.length_range]
  apply List.ext_getElem?
  intro i
  by_cases hi : i < aw_nf c
  · by_cases hik : i = k
    · subst hik
      rw [List.getElem?_set_self (by rw [hl]; exact hi), aw_fs_get hi, if_neg (by rw [hr]; decide)]
      simp [upd]
    · rw [List.getElem?_set_ne (Ne.symm hik), aw_fs_get hi, aw_fs_get hi]
      simp [upd, hik]
  · rw [List.getElem?_eq_none (by rw [List.length_set, hl]; omega), List.getElem?_eq_none (by rw [hl]; omega)]
/-- field k of class c, as class own names it under its number ix -/
def aw_fl (own : String) (ix c k : Nat) : Prop := ∃ (C : String) (T : u_T), aw_cl[c]? = some (C, T, aw_nf c) ∧ k < aw_nf c ∧ (∀ w ∈ u_ws C T (aw_nf c), w ∈ aw_Ts) ∧ Cond.fieldLink own ix C (T k).2.1 (T k).2.2.1 ∈ aw_Ts ∧ (T k).1 = C
def aw_fp (own : String) (ix c k : Nat) (ty : FieldType) : Prop := ∃ (C : String) (T : u_T) (ty0 : Nat → FieldType), aw_cl[c]? = some (C, T, aw_nf c) ∧ k < aw_nf c ∧ (∀ w ∈ u_ws C T (aw_nf c), w ∈ aw_Ts) ∧ Cond.fieldLink own ix C (T k).2.1 (T k).2.2.1 ∈ aw_Ts ∧ (T k).1 = C ∧
  (∀ j, j < aw_nf c → parseFieldDescriptor (T j).2.2.1 = some (ty0 j)) ∧ (∀ a, a < aw_nf c → ∀ b, b < aw_nf c → a ≠ b → (T a).2.1 ≠ (T b).2.1) ∧ (T k).2.2.2 = false ∧ parseFieldDescriptor (T k).2.2.1 = some ty ∧ aw_rf c k = false
theorem ax_getI (B : aw_B M G cc nL own d) {ix c k a : Nat} (F : aw_fl own ix c k) (hr : aw_rf c k = false) (hd : decode cc pc = .ok (.getfield ix, 3)) (ha : a < aw_N G) (hs : (aw_sh (aw_n G) a).1 = c + 3) (hq : pc + 3 = q) (K : aw_X M G nL q ls (.inr (h a k) :: st) h) : aw_X M G nL pc ls (.inl (some a) :: st) h := by
  obtain ⟨p, l, e, R, s, m, args, below, meth, c', cells, slots, Q⟩ := M
  subst hq
  obtain ⟨C, T, hc, hk, hin, hli, hsm⟩ := F
  intro H locs la hP hS hl
  refine va_get (ref := C) B.1 B.2.1 B.2.2.2.2.1 hin B.2.2.2.1 B.2.2.2.2.2.1 hP a (by rw [aw_w_get ha, aw_e_obj hs]) hc k hk (B.2.2.2.2.1 _ hli) (fun x hx => by rw [hsm] at hx; exact hx) (v := .int (h a k)) ?_ hd (K H locs la hP hS hl)
  rw [aw_fs_get hk, if_neg (by rw [hr]; decide)]
theorem ax_getR (B : aw_B M G cc nL own d) {ix c k a : Nat} {r : Option Nat} (F : aw_fl own ix c k) (hr : aw_rf c k = true) (hd : decode cc pc = .ok (.getfield ix, 3)) (ha : a < aw_N G) (hs : (aw_sh (aw_n G) a).1 = c + 3) (hm : aw_rM a k = r) (hq : pc + 3 = q) (K : aw_X M G nL q ls (.inl r :: st) h) : aw_X M G nL pc ls (.inl (some a) :: st) h := by
  obtain ⟨p, l, e, R, s, m, args, below, meth, c', cells, slots, Q⟩ := M
  subst hq
  subst hm
  obtain ⟨C, T, hc, hk, hin, hli, hsm⟩ := F
  intro H locs la hP hS hl
  refine va_get (ref := C) B.1 B.2.1 B.2.2.2.2.1 hin B.2.2.2.1 B.2.2.2.2.2.1 hP a (by rw [aw_w_get ha, aw_e_obj hs]) hc k hk (B.2.2.2.2.1 _ hli) (fun x hx => by rw [hsm] at hx; exact hx) (v := va_rf ((aw_rM a k).map (aw_ad G))) ?_ hd (K H locs la hP hS hl)
  rw [aw_fs_get hk, if_pos hr]
theorem aw_putf (B : aw_B M G cc nL own d) {ix c k a : Nat} {ty : FieldType} {x : Int32} (F : aw_fp own ix c k ty) (hn : narrow ty (.int x) = .int x) (hf : fits ty (.int x) = true) (hd : decode cc pc = .ok (.putfield ix, 3)) (ha : a < aw_N G) (hs : (aw_sh (aw_n G) a).1 = c + 3) (hq : pc + 3 = q) (K : aw_X M G nL q ls st (aw_u h a k x)) : aw_X M G nL pc ls (.inr x :: .inl (some a) :: st) h := by
  obtain ⟨p, l, e, R, s, m, args, below, meth, c', cells, slots, Q⟩ := M
  subst hq
  obtain ⟨C, T, ty0, hc, hk, hin, hli, hsm, hty, hnm, hfin, hpd, hrf⟩ := F
  intro H locs la hP hS hl
  refine va_put (ref := C) (v := .int x) B.1 B.2.1 B.2.2.2.2.1 hin ty0 hty hnm B.2.2.2.1 B.2.2.2.2.2.1 hP (aw_wD B.2.2.2.2.2.2.1 h) hS a (by rw [aw_w_get ha, aw_e_obj hs]) hc k hk (B.2.2.2.2.1 _ hli) (fun x hx => by rw [hsm] at hx; exact hx) hfin hpd hn hf (by unfold aw_fs; rw [List.length_map, List.length_range]; exact hk) hd (fun H1 locs1 hP1 _ hS1 => ?_)
  refine K H1 locs1 la ?_ hS1 hl
  rw [aw_w_set (h' := aw_u h a k x) (by rw [aw_e_obj hs, aw_u_eq, aw_fs_set hrf]) (fun z hz => aw_e_ne hz)] at hP1
  exact hP1
theorem ax_putI (B : aw_B M G cc nL own d) {ix c k a : Nat} {x : Int32} (F : aw_fp own ix c k .int) (hd : decode cc pc = .ok (.putfield ix, 3)) (ha : a < aw_N G) (hs : (aw_sh (aw_n G) a).1 = c + 3) (hq : pc + 3 = q) (K : aw_X M G nL q ls st (aw_u h a k x)) : aw_X M G nL pc ls (.inr x :: .inl (some a) :: st) h :=
  aw_putf B F (vp_nar_int x) rfl hd ha hs hq K
theorem ax_putZ (B : aw_B M G cc nL own d) {ix c k a : Nat} {x : Int32} (F : aw_fp own ix c k .boolean) (hx : x = 0 ∨ x = 1) (hd : decode cc pc = .ok (.putfield ix, 3)) (ha : a < aw_N G) (hs : (aw_sh (aw_n G) a).1 = c + 3) (hq : pc + 3 = q) (K : aw_X M G nL q ls st (aw_u h a k x)) : aw_X M G nL pc ls (.inr x :: .inl (some a) :: st) h :=
  aw_putf B F (by rcases hx with rfl | rfl <;> rfl) (by rcases hx with rfl | rfl <;> rfl) hd ha hs hq K
theorem ax_iald (B : aw_B M G cc nL own d) {a z : Nat} {i : Int32} (hd : decode cc pc = .ok (.iaload, 1)) (ha : a < aw_N G) (hs : aw_sh (aw_n G) a = (0, z)) (hi : vp_in i z) (hq : pc + 1 = q) (K : aw_X M G nL q ls (.inr (h a i.toNatClampNeg) :: st) h) : aw_X M G nL pc ls (.inr i :: .inl (some a) :: st) h := by
  obtain ⟨p, l, e, R, s, m, args, below, meth, c', cells, slots, Q⟩ := M
  subst hq
  intro H locs la hP hS hl
  exact va_iald B.1 B.2.1 B.2.2.2.2.2.1 hP a 0 (by rw [aw_w_get ha, aw_e_arr hs]) rfl hi hd (K H locs la hP hS hl)
theorem ax_zald (B : aw_B M G cc nL own d) {a z : Nat} {i : Int32} (hd : decode cc pc = .ok (.baload, 1)) (ha : a < aw_N G) (hs : aw_sh (aw_n G) a = (1, z)) (hi : vp_in i z) (hq : pc + 1 = q) (K : aw_X M G nL q ls (.inr (h a i.toNatClampNeg) :: st) h) : aw_X M G nL pc ls (.inr i :: .inl (some a) :: st) h := by
  obtain ⟨p, l, e, R, s, m, args, below, meth, c', cells, slots, Q⟩ := M
  subst hq
  intro H locs la hP hS hl
  exact va_zald B.1 B.2.1 B.2.2.2.2.2.1 hP a 1 (by rw [aw_w_get ha, aw_e_arz hs]) rfl hi hd (K H locs la hP hS hl)
theorem ax_aald (B : aw_B M G cc nL own d) {a z : Nat} {i : Int32} {r : Option Nat} (hd : decode cc pc = .ok (.aaload, 1)) (ha : a < aw_N G) (hs : aw_sh (aw_n G) a = (2, z)) (hi : vp_in i z) (hr : aw_rM a i.toNatClampNeg = r) (hq : pc + 1 = q) (K : aw_X M G nL q ls (.inl r :: st) h) : aw_X M G nL pc ls (.inr i :: .inl (some a) :: st) h := by
  obtain ⟨p, l, e, R, s, m, args, below, meth, c', cells, slots, Q⟩ := M
  subst hq
  subst hr
  intro H locs la hP hS hl
  exact va_aldq (f := fun j => (aw_rM a j).map (aw_ad G)) B.1 B.2.1 B.2.2.2.2.2.1 hP a 2 (by rw [aw_w_get ha, aw_e_arq hs]) rfl hi hd (K H locs la hP hS hl)
theorem ax_iast (B : aw_B M G cc nL own d) {a z : Nat} {i x : Int32} (hd : decode cc pc = .ok (.iastore, 1)) (ha : a < aw_N G) (hs : aw_sh (aw_n G) a = (0, z)) (hi : vp_in i z) (hq : pc + 1 = q) (K : aw_X M G nL q ls st (aw_u h a i.toNatClampNeg x)) : aw_X M G nL pc ls (.inr x :: .inr i :: .inl (some a) :: st) h := by
  obtain ⟨p, l, e, R, s, m, args, below, meth, c', cells, slots, Q⟩ := M
  subst hq
  intro H locs la hP hS hl
  refine va_iast B.1 B.2.1 B.2.2.2.2.2.1 hP (aw_wD B.2.2.2.2.2.2.1 h) hS a 0 (by rw [aw_w_get ha, aw_e_arr hs]) rfl hi hd (fun H1 locs1 hP1 _ hS1 => ?_)
  refine K H1 locs1 la ?_ hS1 hl
  rw [aw_w_set (h' := aw_u h a i.toNatClampNeg x) (by rw [aw_e_arr hs, aw_u_eq]) (fun z hz => aw_e_ne hz)] at hP1
  exact hP1
theorem ax_zast (B : aw_B M G cc nL own d) {a z : Nat} {i x : Int32} (hd : decode cc pc = .ok (.bastore, 1)) (ha : a < aw_N G) (hs : aw_sh (aw_n G) a = (1, z)) (hi : vp_in i z) (hq : pc + 1 = q) (K : aw_X M G nL q ls st (aw_u h a i.toNatClampNeg (vp_nar .boolean x))) : aw_X M G nL pc ls (.inr x :: .inr i :: .inl (some a) :: st) h := by
  obtain ⟨p, l, e, R, s, m, args, below, meth, c', cells, slots, Q⟩ := M
  subst hq
  intro H locs la hP hS hl
  refine va_zast B.1 B.2.1 B.2.2.2.2.2.1 hP (aw_wD B.2.2.2.2.2.2.1 h) hS a 1 (by rw [aw_w_get ha, aw_e_arz hs]) rfl hi hd (fun H1 locs1 hP1 _ hS1 => ?_)
  refine K H1 locs1 la ?_ hS1 hl
  rw [aw_w_set (h' := aw_u h a i.toNatClampNeg (vp_nar .boolean x)) (by rw [aw_e_arz hs, aw_u_eq]) (fun z hz => aw_e_ne hz)] at hP1
  exact hP1
theorem ax_iret (B : aw_B M G cc nL own d) {post : Option aw_V → aw_H → Prop} (E : aw_E M G (some .int) post) {x : Int32} (hd : decode cc pc = .ok (.ireturn, 1)) (hp : post (some (.inr x)) h) : aw_X M G nL pc ls [.inr x] h := by
  obtain ⟨p, l, e, R, s, m, args, below, meth, c', cells, slots, Q⟩ := M
  obtain ⟨e1, e2, rfl⟩ := E
  intro H locs la hP hS hl
  exact W.iret B.1 B.2.1 e1 (fun t ht hW => ⟨⟨some (.inr x), h, rfl, hp, by rw [ht]; exact hP, va_K.moved hW.alike B.2.2.2.2.2.1⟩, hS.F ht⟩) hS.2.2 hd e2
theorem ax_zret (B : aw_B M G cc nL own d) {post : Option aw_V → aw_H → Prop} (E : aw_E M G (some .boolean) post) {x : Int32} (hx : x = 0 ∨ x = 1) (hd : decode cc pc = .ok (.ireturn, 1)) (hp : post (some (.inr x)) h) : aw_X M G nL pc ls [.inr x] h := by
  obtain ⟨p, l, e, R, s, m, args, below, meth, c', cells, slots, Q⟩ := M
  obtain ⟨e1, e2, rfl⟩ := E
  intro H locs la hP hS hl
  exact W.zret B.1 B.2.1 e1 (by rcases hx with rfl | rfl <;> rfl) (fun t ht hW => ⟨⟨some (.inr x), h, rfl, hp, by rw [ht]; exact hP, va_K.moved hW.alike B.2.2.2.2.2.1⟩, hS.F ht⟩) hS.2.2 hd e2
theorem ax_vret (B : aw_B M G cc nL own d) {post : Option aw_V → aw_H → Prop} (E : aw_E M G none post) (hd : decode cc pc = .ok (.return_, 1)) (hp : post none h) : aw_X M G nL pc ls [] h := by
  obtain ⟨p, l, e, R, s, m, args, below, meth, c', cells, slots, Q⟩ := M
  obtain ⟨e1, e2, rfl⟩ := E
  intro H locs la hP hS hl
  exact W.vret B.1 B.2.1 e1 (fun t ht hW => ⟨⟨none, h, rfl, hp, by rw [ht]; exact hP, va_K.moved hW.alike B.2.2.2.2.2.1⟩, hS.F ht⟩) hS.2.2 hd e2
theorem ax_aret (B : aw_B M G cc nL own d) {post : Option aw_V → aw_H → Prop} {C : String} (E : aw_E M G (some (.object C)) post) {r : Option Nat} (hd : decode cc pc = .ok (.areturn, 1)) (hp : post (some (.inl r)) h) : aw_X M G nL pc ls [.inl r] h := by
  obtain ⟨p, l, e, R, s, m, args, below, meth, c', cells, slots, Q⟩ := M
  obtain ⟨e1, e2, rfl⟩ := E
  intro H locs la hP hS hl
  refine W.aret B.1 B.2.1 e1 (Or.inl ⟨C, rfl⟩) ?_ (fun t ht hW => ⟨⟨some (.inl r), h, rfl, hp, by rw [ht]; exact hP, va_K.moved hW.alike B.2.2.2.2.2.1⟩, hS.F ht⟩) hS.2.2 hd e2
  cases r with
  | none => exact Or.inl rfl
  | some a => exact Or.inr ⟨_, rfl⟩
end AX
section AC
variable {p : Program} {l : Launch} {e : Env} {R : Room} {s : State} {m : MethodId} {args : Array Value} {below : List Frame} {meth : Method} {c : Code} {H : Heap} {locs : List Loc} {cells slots : Nat} {Q : State → Prop}
variable {G : aw_G} {pc : Nat} {la : Array Slot} {rest st0 : List Value} {a : Array Value}
theorem aw_call {post : Option aw_V → aw_H → Prop} (hr : va_Run p l e R s m args below meth c H locs cells slots 0 0 (F0 m pc la st0) rest (aw_Q G post a) (aw_A G)) (hS : va_S (aw_A G) s.heap H locs)
    (kk : ∀ (r : Option aw_V) (h' : aw_H) (H1 : Heap) (locs1 : List Loc), post r h' → va_P (aw_D G) aw_cl (aw_w G h') H1 → va_S (aw_A G) s.heap H1 locs1 → W p l e R s m args below meth c H1 locs1 cells slots Q (F0 m (pc + 3) la ((r.map (aw_c (aw_ad G))).toList ++ rest))) : W p l e R s m args below meth c H locs cells slots Q (F0 m pc la st0) := by
  intro T hT X
  obtain ⟨v, st₀, t, T', L, h0, X', hL, e1, e2, ⟨⟨r, h', hv, hp, hP1, hK1⟩, hz, hk⟩, st⟩ := hr T hT X
  cases hv
  rw [h0] at hz hk
  obtain ⟨t2, a1, b1⟩ := kk r h' T'.heap (locs ++ L) hp (by rw [e1]; exact hP1)
    ⟨Nat.le_trans hS.1 (by rw [e1]; exact hz), fun q h1 h2 => by rw [e1, hk q (Nat.lt_of_lt_of_le h1 hS.1) h2]; exact hS.2.1 q h1 h2, fun q hq => by
      rcases List.mem_append.mp hq with h | h
      · exact hS.2.2 q h
      · exact hL q h⟩ T' rfl X'
  exact ⟨t2, st t2 a1, b1⟩
end AC
theorem aw_blind {G : aw_G} {args : List aw_V} {h : aw_H} : FrameBlind (aw_Pc G args h) := fun a U g mk q => by
  obtain ⟨q0, qP, qK⟩ := q
  exact ⟨q0, qP, va_K.moved (u := U) (U := U.calling g mk a) (Vm.Alike.refl U.vm) qK⟩
theorem aw_recv {G : aw_G} {s : State} {H : Heap} {h : aw_H} {a c : Nat} {C : String} {T : u_T} (hK : va_K (aw_D G) aw_cl (aw_tys G) s) (hP : va_P (aw_D G) aw_cl (aw_w G h) H) (ha : a < aw_N G) (hs : (aw_sh (aw_n G) a).1 = c + 3) (hc : aw_cl[c]? = some (C, T, aw_nf c)) :
    ∃ cellB : Cell, H[aw_ad G a]? = some cellB ∧ cellB.vm.isStatics = false ∧ s.vm.findClass C = some cellB.cls := by
  have h1 := hP a _ (aw_w_get ha)
  rw [aw_e_obj hs] at h1
  obtain ⟨r, h2, cell, q1, q2, q3, -⟩ := h1
  exact ⟨cell, q1, by rw [q3]; rfl, by rw [q2]; exact (hK.1 c _ hc).2.1⟩
theorem aw_goodIn {big : List Cond} (hb : ∀ w ∈ aw_Ts, w ∈ big) (y : aw_Y) (hy : Cond.code y.1 y.2.1 y.2.2.1 y.2.2.2 ∈ aw_Ts) : GoodIn big (aw_ws y) := by
  intro w hw
  have h1 : w ∈ aw_Ts := by
    rcases List.mem_cons.mp hw with h | h
    · rw [h]; exact hy
    · exact h
  exact ⟨hb w h1, good_of_word (List.mem_filter.mp h1).2⟩
/-- what a call of method y under number ix of class own needs of the tables; n arguments beside the receiver -/
def aw_cv (own : String) (ix : Nat) (y : aw_Y) (c n : Nat) : Prop := ∃ (T : u_T), aw_cl[c]? = some (y.1.cls, T, aw_nf c) ∧ Cond.code y.1 y.2.1 y.2.2.1 y.2.2.2 ∈ aw_Ts ∧ Cond.methodLink own ix y.1 ∈ aw_Ts ∧ Cond.instanceMethod y.1 ∈ aw_Ts ∧ Cond.selects y.1.cls y.1 y.1 ∈ aw_Ts ∧ Cond.initialized y.1.cls ∈ aw_Ts ∧
  (y.1.cls ≠ "java/lang/invoke/MethodHandle" ∧ y.1.cls ≠ "java/lang/invoke/VarHandle" ∧ (parseMethodDescriptor y.1.desc).map (fun d => d.parameters.length) = some n) ∧ y.2.2.1 ≤ 21
def aw_cs (own : String) (ix : Nat) (y : aw_Y) (n : Nat) : Prop := Cond.code y.1 y.2.1 y.2.2.1 y.2.2.2 ∈ aw_Ts ∧ Cond.methodLink own ix y.1 ∈ aw_Ts ∧ Cond.static y.1 ∈ aw_Ts ∧ Cond.initialized y.1.cls ∈ aw_Ts ∧
  (y.1.cls ≠ "java/lang/invoke/MethodHandle" ∧ y.1.cls ≠ "java/lang/invoke/VarHandle" ∧ (parseMethodDescriptor y.1.desc).map (fun d => d.parameters.length) = some n) ∧ y.2.2.1 ≤ 21
section AV
variable {M : aw_M} {G : aw_G} {cc : ByteArray} {nL d pc q : Nat} {own : String} {ls : List (Option aw_V)} {st : List aw_V} {h : aw_H}
theorem ax_callV (B : aw_B M G cc nL own d) {ix c n d' a : Nat} {y : aw_Y} {as rs : List aw_V} {post : Option aw_V → aw_H → Prop} (V : aw_cv own ix y c n) (hd : decode cc pc = .ok (.invokevirtual ix, 3)) (ha : a < aw_N G) (hs : (aw_sh (aw_n G) a).1 = c + 3) (hn : as.length = n) (hrs : as.reverse = rs) (hst : st.length ≤ 8) (hdd : d' < d)
    (C : aw_C M.2.1 G d' y (.inl (some a) :: as) h post) (hq : pc + 3 = q) (K : ∀ r h', post r h' → aw_X M G nL q ls (r.toList ++ st) h') : aw_X M G nL pc ls (rs ++ .inl (some a) :: st) h := by
  obtain ⟨p, l, e, R, s, m, args, below, meth, c', cells, slots, Q⟩ := M
  subst hq
  subst hrs
  obtain ⟨T, hc, v1, v2, v3, v4, v5, v6, v7⟩ := V
  obtain ⟨b1, b2, b3, b4, b5, b6, b7, b8, b9, b10, b11⟩ := B
  intro H locs la hP hS hl
  refine aw_call (post := post) (rest := st.map (aw_c (aw_ad G))) (va_runV (C := y.1.cls) (b := aw_ad G a) (As := as.map (aw_c (aw_ad G))) (n := n) ⟨b1, b2, b3, b4, b5⟩ C ⟨callB_of n b5 (aw_goodIn (fun w hw => hw) y v1) rfl rfl rfl (b5 _ v5) (b5 _ v2) v6 ⟨by show d' + 1 ≤ R.frames; omega, by show 8 + (y.2.2.1 + 11) + 40 * d' ≤ R.locals; omega⟩, b5 _ v3, b5 _ v4⟩ ⟨aw_blind, aw_recv b6 hP ha hs hc, fun U hU hW => ⟨rfl, by rw [hU]; exact hP, va_K.moved hW.alike b6⟩⟩ rfl (by rw [List.length_map]; exact hn) hl.1 (by simp only [List.map_append, List.map_reverse, List.map_cons]; rfl) (lv_room (by rw [aw_cats]; exact hst)) hd ⟨b10, b11⟩) hS (fun r h' H1 locs1 hp hP1 hS1 => ?_)
  have h9 := K r h' hp H1 locs1 la hP1 hS1 hl
  cases r with
  | none => exact h9
  | some v => exact h9
theorem ax_callS (B : aw_B M G cc nL own d) {ix n d' : Nat} {y : aw_Y} {as rs : List aw_V} {post : Option aw_V → aw_H → Prop} (V : aw_cs own ix y n) (hd : decode cc pc = .ok (.invokestatic ix, 3)) (hn : as.length = n) (hrs : as.reverse = rs) (hst : st.length ≤ 8) (hdd : d' < d)
    (C : aw_C M.2.1 G d' y as h post) (hq : pc + 3 = q) (K : ∀ r h', post r h' → aw_X M G nL q ls (r.toList ++ st) h') : aw_X M G nL pc ls (rs ++ st) h := by
  obtain ⟨p, l, e, R, s, m, args, below, meth, c', cells, slots, Q⟩ := M
  subst hq
  subst hrs
  obtain ⟨v1, v2, v3, v5, v6, v7⟩ := V
  obtain ⟨b1, b2, b3, b4, b5, b6, b7, b8, b9, b10, b11⟩ := B
  intro H locs la hP hS hl
  refine aw_call (post := post) (rest := st.map (aw_c (aw_ad G))) (va_runS (As := as.map (aw_c (aw_ad G))) (n := n) ⟨b1, b2, b3, b4, b5⟩ C ⟨callB_of n b5 (aw_goodIn (fun w hw => hw) y v1) rfl rfl rfl (b5 _ v5) (b5 _ v2) v6 ⟨by show d' + 1 ≤ R.frames; omega, by show 8 + (y.2.2.1 + 11) + 40 * d' ≤ R.locals; omega⟩, b5 _ v3⟩ ⟨aw_blind, fun U hU hW => ⟨rfl, by rw [hU]; exact hP, va_K.moved hW.alike b6⟩⟩ rfl (by rw [List.length_map]; exact hn) hl.1 (by simp only [List.map_append, List.map_reverse]) (lv_room (by rw [aw_cats]; exact hst)) hd ⟨b10, b11⟩) hS (fun r h' H1 locs1 hp hP1 hS1 => ?_)
  have h9 := K r h' hp H1 locs1 la hP1 hS1 hl
  cases r with
  | none => exact h9
  | some v => exact h9
end AV
theorem aw_slen (ad : Nat → Nat) : ∀ as : List aw_V, (lg_sl (as.map (aw_c ad))).length = as.length
  | [] => rfl
  | v :: as => by
    have h := aw_slen ad as
    have hc : lg_sl ((v :: as).map (aw_c ad)) = Slot.val (aw_c ad v) :: lg_sl (as.map (aw_c ad)) := by rcases v with (_ | p) | x <;> rfl
    rw [hc, List.length_cons, h, List.length_cons]
theorem aw_args (ad : Nat → Nat) : ∀ (as : List aw_V) (i j : Nat) (v : aw_V), as[j]? = some v → (i + j, aw_c ad v) ∈ lv_args i (as.map (aw_c ad))
  | [], i, j, v, h => by simp at h
  | w :: as, i, j, v, h => by
    have hc : lv_args i ((w :: as).map (aw_c ad)) = (i, aw_c ad w) :: lv_args (i + 1) (as.map (aw_c ad)) := by
      show (i, aw_c ad w) :: lv_args (if (aw_c ad w).category = 2 then i + 2 else i + 1) (as.map (aw_c ad)) = _
      rw [if_neg (by rw [aw_cat]; decide)]
    rw [hc]
    cases j with
    | zero =>
      rw [List.getElem?_cons_zero] at h
      cases h
      exact List.mem_cons_self
    | succ j =>
      rw [List.getElem?_cons_succ] at h
      have h2 := aw_args ad as (i + 1) j v h
      rw [show i + (j + 1) = i + 1 + j by omega]
      exact List.mem_cons_of_mem _ h2
def aw_in (as : List aw_V) (nL : Nat) : List (Option aw_V) := as.map some ++ List.replicate (nL - as.length) none
/-- a contract from a walk of the body -/
theorem aw_met {l : Launch} {G : aw_G} (hG : aw_ok G) {d nL : Nat} {y : MethodName} {cc : ByteArray} {ret : Option FieldType} {as : List aw_V} {h : aw_H} {post : Option aw_V → aw_H → Prop} (hy : plainName y.cls = true) (hn : as.length ≤ nL)
    (K : ∀ M : aw_M, M.2.1 = l → aw_B M G cc nL y.cls d → aw_E M G ret post → aw_X M G nL 0 (aw_in as nL) [] h) : aw_C l G d (y, cc, nL, ret) as h post := by
  refine Met.ofW (cc := cc) (maxL := nL) (ret := ret) hy rfl ?_
  intro p e s m args below meth c s₁ B hml hv
  obtain ⟨rfl, hP, hK⟩ := hv
  have hts := atoms_spec (ws := aw_ws (y, cc, nL, ret)) B.pre
  have hown : s.vm.findClass y.cls = some m.cls := findClass_of_methodNamed B.named
  have hl := lv_entry (as.map (aw_c (aw_ad G))) (n := nL) (by rw [aw_slen]; exact hn)
  rw [lg_entry_eq]
  refine K (p, l, e, (headSpec (aw_ws (y, cc, nL, ret)) (aw_rm d)).room, s, m, (as.map (aw_c (aw_ad G))).toArray, below, meth, c, 0, 0, MQ below (aw_Q G post) (as.map (aw_c (aw_ad G))).toArray s 0 0 (aw_A G)) rfl ⟨B.exec, B.bytes, hml, hown, fun w hw => hts w (List.mem_cons_of_mem _ hw), hK, hG, Nat.le_refl d, Nat.le_refl (40 * d), Nat.le_refl 0, Nat.le_refl 0⟩ ⟨B.returns, B.notSynchronized, rfl⟩ s.heap [] _ hP va_S.rf ⟨hl.1, hl.2.1, fun i v hi => ?_⟩
  have hi2 : as[i]? = some v := by
    unfold aw_in at hi
    by_cases hl : i < as.length
    · rw [List.getElem?_append_left (by rw [List.length_map]; exact hl), List.getElem?_map] at hi
      cases hg : as[i]? with
      | none => rw [hg] at hi; cases hi
      | some w => rw [hg] at hi; cases hi; rfl
    · rw [List.getElem?_append_right (by rw [List.length_map]; omega)] at hi
      have := List.mem_of_getElem? hi
      rw [List.mem_replicate] at this
      cases this.2
  have h3 := aw_args (aw_ad G) as 0 i v hi2
  rw [Nat.zero_add] at h3
  exact hl.2.2 _ h3
