/- what each call answers and does, in the words of the mathematical state -/
/-- the tree that a look at 'at' sees -/
def pz_tv (S : pz_S) (x : Int32) : pz_T := if x = 0 then S.2.2.2.2 else pz_past S.2.2.1 x S.2.1
def pz_left (S : pz_S) : Int32 := nI (S.1 - S.2.1)
def pz_changed (S : pz_S) : Int32 := nI (pz_nch S.2.2.2.2 8)
def pz_tables (S : pz_S) : Int32 := nI (pz_tabs S.2.2.1 S.2.1)
def pz_kind (S : pz_S) (a x : Int32) : Int32 := match pz_nd (pz_tv S a) (fun c => c != 0) x with
  | none => -1
  | some i => nI (pz_kd (pz_tv S a) i)
def pz_items (S : pz_S) (a x : Int32) : Int32 := match pz_nd (pz_tv S a) (fun c => c != 0) x with
  | none => -1
  | some i => nI (pz_ct (pz_tv S a) i)
def pz_find (S : pz_S) (a x nm : Int32) : Int32 := match pz_nd (pz_tv S a) (fun c => c == 1) x with
  | none => -1
  | some i => oI ((pz_ix (pz_it (pz_tv S a) i) nm (pz_ct (pz_tv S a) i)).map (fun j => pz_it (pz_tv S a) i j % 16))
def pz_item (S : pz_S) (a x j : Int32) : Int32 := match pz_nd (pz_tv S a) (fun c => c == 1) x with
  | none => -1
  | some i => if pz_small j (pz_ct (pz_tv S a) i) = true then nI (pz_it (pz_tv S a) i j.toNatClampNeg) else -1
def pz_block (S : pz_S) (a x j : Int32) : Int32 := match pz_nd (pz_tv S a) (fun c => c == 2) x with
  | none => -1
  | some i => if pz_small j (pz_ct (pz_tv S a) i) = true then (if pz_good S.2.2.1 (pz_it (pz_tv S a) i j.toNatClampNeg) = true then nI (S.2.2.1 (16 * pz_it (pz_tv S a) i j.toNatClampNeg + 4)) else -8) else -1
def pz_word (S : pz_S) (x i : Int32) : Int32 := if (pz_small x S.1 && pz_small i 16) = true then nI (S.2.2.1 (16 * x.toNatClampNeg + i.toNatClampNeg)) else -1
def pz_make (S : pz_S) (dir name : Int32) (b : Bool) : Int32 × pz_S := match S with
  | (n, k, w, sp, t) => match pz_nd t (fun c => c == 1) dir with
    | none => (-1, S)
    | some d => if pz_small name 100 = false then (-1, S)
      else match pz_ix (pz_it t d) name (pz_ct t d) with
      | some _ => (-2, S)
      | none => match pz_least (pz_kd t) 8 with
        | none => (-3, S)
        | some m => if n < k + 0 + pz_cw (pz_ch t) d m 8 8 + 1 then (-4, S)
          else (nI m, (n, k, w, sp, pz_add (pz_new t m (if b = true then 1 else 2)) d (16 * name.toNatClampNeg + m)))
def pz_write (S : pz_S) (file j v : Int32) : Int32 × pz_S := match S with
  | (n, k, w, sp, t) => match pz_nd t (fun c => c == 2) file with
    | none => (-1, S)
    | some f => if pz_small v 65536 = false then (-1, S)
      else if pz_small j (pz_ct t f + 1) = false then (-1, S)
      else if pz_small j 10 = false then (-1, S)
      else if n < k + 1 + pz_cw (pz_ch t) f 8 8 8 + 1 then (-4, S)
      else if sp = 1 then (-5, (n, k + 1, pz_sec w k (pz_data k f v.toNatClampNeg) true, 0, pz_back (pz_sec w k (pz_data k f v.toNatClampNeg) true) (k + 1)))
      else (nI k, (n, k + 1, pz_sec w k (pz_data k f v.toNatClampNeg) false, sp - 1, pz_blk t f j.toNatClampNeg k))
def pz_remove (S : pz_S) (dir name : Int32) : Int32 × pz_S := match S with
  | (n, k, w, sp, t) => match pz_nd t (fun c => c == 1) dir with
    | none => (-1, S)
    | some d => match pz_ix (pz_it t d) name (pz_ct t d) with
      | none => (-1, S)
      | some j => if pz_kd t (pz_it t d j % 16) = 1 ∧ 0 < pz_ct t (pz_it t d j % 16) then (-6, S)
        else if n < k + 0 + pz_cw (pz_ch t) d 8 (pz_it t d j % 16) 8 + 1 then (-4, S)
        else (nI (pz_it t d j % 16), (n, k, w, sp, pz_gone (pz_take t d j) (pz_it t d j % 16)))
def pz_move (S : pz_S) (dir name to as : Int32) : Int32 × pz_S := match S with
  | (n, k, w, sp, t) => match pz_nd t (fun c => c == 1) dir with
    | none => (-1, S)
    | some d => match pz_nd t (fun c => c == 1) to with
      | none => (-1, S)
      | some e => if pz_small as 100 = false then (-1, S)
        else match pz_ix (pz_it t d) name (pz_ct t d) with
        | none => (-1, S)
        | some j => match pz_ix (pz_it t e) as (pz_ct t e) with
          | some _ => (-2, S)
          | none => if pz_below t e (pz_it t d j % 16) 8 = true then (-7, S)
            else if n < k + 0 + pz_cw (pz_ch t) d e 8 8 + 1 then (-4, S)
            else (nI (pz_it t d j % 16), (n, k, w, sp, pz_add (pz_take t d j) e (16 * as.toNatClampNeg + pz_it t d j % 16)))
def pz_close (S : pz_S) : Int32 × pz_S := match S with
  | (n, k, w, sp, t) =>
    if pz_nch t 8 = 0 then (nI 0, S)
    else if n < k + 0 + pz_nch t 8 + 1 then (-4, S)
    else match pz_es t k w sp 8 with
      | ((k', w', sp', _), true) => (-5, (n, k', w', sp', pz_back w' k'))
      | ((k', w', sp', en'), false) =>
        if sp' = 1 then (-5, (n, k' + 1, pz_sec w' k' (pz_table k' (pz_num w k + 1) en') true, 0, pz_back (pz_sec w' k' (pz_table k' (pz_num w k + 1) en') true) (k' + 1)))
        else (nI (pz_nch t 8 + 1), (n, k' + 1, pz_sec w' k' (pz_table k' (pz_num w k + 1) en') false, sp' - 1, (pz_kd t, pz_ct t, fun _ => false, en', pz_it t)))
def pz_arm (S : pz_S) (x : Int32) : Int32 × pz_S := match S with
  | (n, k, w, _, t) => if pz_small x 1001 = false then (nI 0, S) else (nI 1, (n, k, w, x.toNatClampNeg + 1, t))
def pz_crash (S : pz_S) : Int32 × pz_S := match S with
  | (n, k, w, _, _) => (nI (pz_num w k), (n, k, w, 0, pz_back w k))
def pz_spoil (S : pz_S) (x : Int32) : Int32 × pz_S := match S with
  | (n, k, w, sp, t) => if pz_small x k = false then (nI 0, S) else (nI 1, (n, k, pz_up w (16 * x.toNatClampNeg + 1) (w (16 * x.toNatClampNeg + 1) ^^^ 1), sp, t))
/-- the class's cells hold state S -/
def cz (G : aw_G) (S : pz_S) (h : aw_H) : Prop := S.1 = aw_n G ∧ mz G S.2.1 S.2.2.2.1 S.2.2.1 h ∧ hz_T 4 S.2.2.2.2 h
theorem pz_wf.ct10 {k : Nat} {t : pz_T} (h : pz_wf k t) {d : Nat} (hd : d < 8) : pz_ct t d ≤ 10 := by
  have h2 := h.2.1 d hd
  by_cases h0 : pz_kd t d = 0
  · rw [(h.2.2.1 d hd h0).1]; omega
  · by_cases h1 : pz_kd t d = 1
    · have := h.ct hd h1; omega
    · exact (h.2.2.2.1 d hd (by omega)).1
theorem pz_inv.iz {n k sp : Nat} {w : Nat → Nat} {t : pz_T} (h : pz_inv (n, k, w, sp, t)) : iz k w := by
  obtain ⟨-, -, -, -, -, -, -, -, h9⟩ := h
  intro p hp h3 i hi
  obtain ⟨h1, h2, -⟩ := h9 p hp h3
  refine ⟨h1 i hi, ?_⟩
  by_cases h0 : pz_nm w p i = 0
  · exact Or.inl h0
  · have h4 := h2.ct10 hi
    have h5 : pz_ct (pz_read w p) i = w (16 * (pz_nm w p i - 1) + 5) := if_neg h0
    rw [h5] at h4
    exact Or.inr h4
