/- what each call answers and does, in the words of the mathematical state -/
def pz_no (x : Int32) : Nat := if pz_small x 8 = true then x.toNatClampNeg else 8
theorem pz_no_N {j : Nat} (h : j < 8) : pz_no (nI j) = j := by
  unfold pz_no
  rw [if_pos (pz_small_N (by omega) h), nI_clamp (by omega)]
theorem pz_no_8 {x : Int32} (h : pz_small x 8 = false) : pz_no x = 8 := by
  unfold pz_no
  rw [if_neg (by rw [h]; decide)]
/-- the node that x names, if it is there and as asked -/
def pz_nd (t : pz_T) (P : Nat → Bool) (x : Int32) : Option Nat := if pz_no x < 8 ∧ P (pz_kd t (pz_no x)) = true then some (pz_no x) else none
def pz_is (t : pz_T) (x : Int32) (what : Nat) : Bool := decide (pz_no x < 8) && pz_kd t (pz_no x) == what
def pz_up {α : Type} (f : Nat → α) (i : Nat) (v : α) : Nat → α := fun j => if j = i then v else f j
/-- how many nodes are changed, were a and b so too, and gone not -/
def pz_cw (ch : Nat → Bool) (a b gone : Nat) : Nat → Nat := pz_cp (fun n => (ch n || n == a || n == b) && n != gone)
def pz_new (t : pz_T) (m kind : Nat) : pz_T := (pz_up (pz_kd t) m kind, pz_up (pz_ct t) m 0, pz_up (pz_ch t) m true, pz_up (pz_en t) m 0, pz_it t)
def pz_gone (t : pz_T) (m : Nat) : pz_T := (pz_up (pz_kd t) m 0, pz_up (pz_ct t) m 0, pz_up (pz_ch t) m false, pz_up (pz_en t) m 0, pz_it t)
def pz_add (t : pz_T) (d v : Nat) : pz_T := (pz_kd t, pz_up (pz_ct t) d (pz_ct t d + 1), pz_up (pz_ch t) d true, pz_en t, pz_up (pz_it t) d (pz_up (pz_it t d) (pz_ct t d) v))
def pz_take (t : pz_T) (d j : Nat) : pz_T := (pz_kd t, pz_up (pz_ct t) d (pz_ct t d - 1), pz_up (pz_ch t) d true, pz_en t, pz_up (pz_it t) d (fun i => if i < j then pz_it t d i else pz_it t d (i + 1)))
def pz_blk (t : pz_T) (f j v : Nat) : pz_T := (pz_kd t, pz_up (pz_ct t) f (if j = pz_ct t f then j + 1 else pz_ct t f), pz_up (pz_ch t) f true, pz_en t, pz_up (pz_it t) f (pz_up (pz_it t f) j v))
-- who is above whom
/-- is node c among the first items -/
def pz_hd (f : Nat → Nat) (c : Nat) : Nat → Bool | 0 => false | j + 1 => pz_hd f c j || (f j % 16 == c)
def pz_hold (t : pz_T) (d c : Nat) : Nat → Bool := pz_hd (pz_it t d) c
def oI (o : Option Nat) : Int32 := match o with
  | none => -1
  | some j => nI j
def pz_par (t : pz_T) (c : Nat) : Nat → Option Nat | 0 => none | n + 1 => match pz_par t c n with
  | some i => some i
  | none => if pz_kd t n = 1 ∧ pz_hold t n c (pz_ct t n) = true then some n else none
def pz_anc (t : pz_T) (c : Nat) : Nat → Option Nat | 0 => some c | k + 1 => (pz_anc t c k).bind (fun x => pz_par t x 8)
def pz_below (t : pz_T) (c h : Nat) : Nat → Bool | 0 => false | k + 1 => pz_below t c h k || (pz_anc t c k == some h)
-- one sector
def pz_put (w : Nat → Nat) (k : Nat) (f : Nat → Nat) : Nat → Nat := fun x => if 16 * k ≤ x ∧ x < 16 * k + 16 then f (x - 16 * k) else w x
/-- the words once sector f (its word 1 not looked at) is written at place k, torn or not -/
def pz_sec (w : Nat → Nat) (k : Nat) (f : Nat → Nat) (torn : Bool) : Nat → Nat := fun x =>
  if x = 16 * k + 1 then (if torn = true then pz_chkN f 16 ^^^ 1 else pz_chkN f 16) else pz_put w k f x
def pz_data (k file v : Nat) : Nat → Nat := fun i => if i = 0 then 1 else if i = 2 then k else if i = 3 then file else if i = 4 then v else 0
def pz_entry (k n : Nat) (t : pz_T) : Nat → Nat := fun i => if i = 0 then 2 else if i = 2 then k else if i = 3 then n else if i = 4 then pz_kd t n else if i = 5 then pz_ct t n else if 6 ≤ i ∧ i < 6 + pz_ct t n then pz_it t n (i - 6) else 0
def pz_table (k num : Nat) (en : Nat → Nat) : Nat → Nat := fun i => if i = 0 then 3 else if i = 2 then k else if i = 3 then num else if 4 ≤ i ∧ i < 12 then en (i - 4) else 0
/-- the entries of the changed nodes below i: (written, words, stop + 1, entries + 1), and whether one tore -/
def pz_es (t : pz_T) (k : Nat) (w : Nat → Nat) (sp : Nat) : Nat → (Nat × (Nat → Nat) × Nat × (Nat → Nat)) × Bool
  | 0 => ((k, w, sp, pz_en t), false)
  | i + 1 => match pz_es t k w sp i with
    | (s, true) => (s, true)
    | ((k', w', sp', en'), false) => if pz_ch t i = true then ((k' + 1, pz_sec w' k' (pz_entry k' i t) (sp' == 1), sp' - 1, pz_up en' i (k' + 1)), sp' == 1) else ((k', w', sp', en'), false)
def pz_num (w : Nat → Nat) (k : Nat) : Nat := match pz_newest w k with | none => 0 | some p => w (16 * p + 3)
def pz_make (S : pz_S) (dir name : Int32) (b : Bool) : Int32 × pz_S := match S with
  | (n, k, w, sp, t) =>
    if pz_is t dir 1 = false ∨ pz_small name 100 = false then (-1, S)
    else match pz_ix (pz_it t (pz_no dir)) name (pz_ct t (pz_no dir)) with
      | some _ => (-2, S)
      | none => match pz_least (pz_kd t) 8 with
        | none => (-3, S)
        | some m => if n < k + 0 + pz_cw (pz_ch t) (pz_no dir) m 8 8 + 1 then (-4, S)
          else (nI m, (n, k, w, sp, pz_add (pz_new t m (if b = true then 1 else 2)) (pz_no dir) (16 * name.toNatClampNeg + m)))
def pz_write (S : pz_S) (file j v : Int32) : Int32 × pz_S := match S with
  | (n, k, w, sp, t) =>
    if pz_is t file 2 = false ∨ pz_small v 65536 = false ∨ pz_small j (pz_ct t (pz_no file) + 1) = false ∨ pz_small j 10 = false then (-1, S)
    else if n < k + 1 + pz_cw (pz_ch t) (pz_no file) 8 8 8 + 1 then (-4, S)
    else if sp = 1 then (-5, (n, k + 1, pz_sec w k (pz_data k (pz_no file) v.toNatClampNeg) true, 0, pz_back (pz_sec w k (pz_data k (pz_no file) v.toNatClampNeg) true) (k + 1)))
    else (nI k, (n, k + 1, pz_sec w k (pz_data k (pz_no file) v.toNatClampNeg) false, sp - 1, pz_blk t (pz_no file) j.toNatClampNeg k))
def pz_remove (S : pz_S) (dir name : Int32) : Int32 × pz_S := match S with
  | (n, k, w, sp, t) =>
    if pz_is t dir 1 = false then (-1, S)
    else match pz_ix (pz_it t (pz_no dir)) name (pz_ct t (pz_no dir)) with
      | none => (-1, S)
      | some j => let m := pz_it t (pz_no dir) j % 16
        if pz_kd t m = 1 ∧ 0 < pz_ct t m then (-6, S)
        else if n < k + 0 + pz_cw (pz_ch t) (pz_no dir) 8 m 8 + 1 then (-4, S)
        else (nI m, (n, k, w, sp, pz_gone (pz_take t (pz_no dir) j) m))
def pz_move (S : pz_S) (dir name to as : Int32) : Int32 × pz_S := match S with
  | (n, k, w, sp, t) =>
    if pz_is t dir 1 = false ∨ pz_is t to 1 = false ∨ pz_small as 100 = false then (-1, S)
    else match pz_ix (pz_it t (pz_no dir)) name (pz_ct t (pz_no dir)) with
      | none => (-1, S)
      | some j => match pz_ix (pz_it t (pz_no to)) as (pz_ct t (pz_no to)) with
        | some _ => (-2, S)
        | none => let m := pz_it t (pz_no dir) j % 16
          if pz_below t (pz_no to) m 8 = true then (-7, S)
          else if n < k + 0 + pz_cw (pz_ch t) (pz_no dir) (pz_no to) 8 8 + 1 then (-4, S)
          else (nI m, (n, k, w, sp, pz_add (pz_take t (pz_no dir) j) (pz_no to) (16 * as.toNatClampNeg + m)))
def pz_close (S : pz_S) : Int32 × pz_S := match S with
  | (n, k, w, sp, t) =>
    if pz_nch t 8 = 0 then (0, S)
    else if n < k + 0 + pz_nch t 8 + 1 then (-4, S)
    else match pz_es t k w sp 8 with
      | ((k', w', sp', _), true) => (-5, (n, k', w', sp', pz_back w' k'))
      | ((k', w', sp', en'), false) =>
        let w2 := pz_sec w' k' (pz_table k' (pz_num w k + 1) en') (sp' == 1)
        if sp' = 1 then (-5, (n, k' + 1, w2, 0, pz_back w2 (k' + 1)))
        else (nI (pz_nch t 8 + 1), (n, k' + 1, w2, sp' - 1, (pz_kd t, pz_ct t, fun _ => false, en', pz_it t)))
def pz_arm (S : pz_S) (x : Int32) : Int32 × pz_S := match S with
  | (n, k, w, _, t) => if pz_small x 1001 = false then (0, S) else (1, (n, k, w, x.toNatClampNeg + 1, t))
def pz_crash (S : pz_S) : Int32 × pz_S := match S with
  | (n, k, w, _, _) => (nI (pz_num w k), (n, k, w, 0, pz_back w k))
def pz_spoil (S : pz_S) (x : Int32) : Int32 × pz_S := match S with
  | (n, k, w, sp, t) => if pz_small x k = false then (0, S) else (1, (n, k, pz_up w (16 * x.toNatClampNeg + 1) (w (16 * x.toNatClampNeg + 1) ^^^ 1), sp, t))
/-- the tree that a look at 'at' sees -/
def pz_at (S : pz_S) (at_ : Int32) : Option pz_T := match S with
  | (_, k, w, _, t) => if at_ = 0 then some t else (pz_tabAt w at_ k).map (pz_read w)
def pz_see (S : pz_S) (at_ x : Int32) : Option pz_T := match pz_at S at_ with
  | none => none
  | some t => if pz_no x < 8 ∧ pz_kd t (pz_no x) ≠ 0 then some t else none
def pz_kind (S : pz_S) (at_ x : Int32) : Int32 := match pz_see S at_ x with
  | none => -1
  | some t => nI (pz_kd t (pz_no x))
def pz_items (S : pz_S) (at_ x : Int32) : Int32 := match pz_see S at_ x with
  | none => -1
  | some t => nI (pz_ct t (pz_no x))
def pz_find (S : pz_S) (at_ x nm : Int32) : Int32 := match pz_see S at_ x with
  | none => -1
  | some t => if pz_kd t (pz_no x) = 1 then (match pz_ix (pz_it t (pz_no x)) nm (pz_ct t (pz_no x)) with | none => -1 | some j => nI (pz_it t (pz_no x) j % 16)) else -1
def pz_item (S : pz_S) (at_ x i : Int32) : Int32 := match pz_see S at_ x with
  | none => -1
  | some t => if pz_kd t (pz_no x) = 1 ∧ pz_small i (pz_ct t (pz_no x)) = true then nI (pz_it t (pz_no x) i.toNatClampNeg) else -1
def pz_block (S : pz_S) (at_ x i : Int32) : Int32 := match pz_see S at_ x with
  | none => -1
  | some t => if pz_kd t (pz_no x) = 2 ∧ pz_small i (pz_ct t (pz_no x)) = true then (if pz_good S.2.2.1 (pz_it t (pz_no x) i.toNatClampNeg) = true then nI (S.2.2.1 (16 * pz_it t (pz_no x) i.toNatClampNeg + 4)) else -8) else -1
def pz_word (S : pz_S) (x i : Int32) : Int32 := if pz_small x S.1 = true ∧ pz_small i 16 = true then nI (S.2.2.1 (16 * x.toNatClampNeg + i.toNatClampNeg)) else -1
/-- WELL FORMED TREES over k written sectors -/
def pz_sm (g : Nat → Nat) : Nat → Nat | 0 => 0 | n + 1 => pz_sm g n + g n
def pz_gd (t : pz_T) (n : Nat) : Nat := if pz_kd t n = 1 then pz_ct t n else 0
def pz_gc (t : pz_T) (n : Nat) : Nat := if pz_kd t n = 0 then 0 else 1
def pz_sumd (t : pz_T) : Nat → Nat := pz_sm (pz_gd t)
def pz_cnt (t : pz_T) : Nat → Nat := pz_sm (pz_gc t)
def pz_wf (k : Nat) (t : pz_T) : Prop :=
  pz_kd t 0 = 1 ∧ (∀ n, n < 8 → pz_kd t n ≤ 2) ∧ (∀ n, n < 8 → pz_kd t n = 0 → pz_ct t n = 0 ∧ pz_ch t n = false ∧ pz_en t n = 0)
  ∧ (∀ n, n < 8 → pz_kd t n = 2 → pz_ct t n ≤ 10 ∧ ∀ j, j < pz_ct t n → pz_it t n j < k)
  ∧ (∀ n, n < 8 → pz_kd t n = 1 → ∀ j, j < pz_ct t n → pz_it t n j / 16 < 100 ∧ pz_it t n j % 16 < 8 ∧ pz_it t n j % 16 ≠ 0 ∧ pz_it t n j % 16 ≠ n ∧ pz_kd t (pz_it t n j % 16) ≠ 0)
  ∧ (∀ n j n' j', n < 8 → n' < 8 → pz_kd t n = 1 → pz_kd t n' = 1 → j < pz_ct t n → j' < pz_ct t n' → pz_it t n j % 16 = pz_it t n' j' % 16 → n = n' ∧ j = j')
  ∧ pz_sumd t 8 + 1 = pz_cnt t 8
/-- an unchanged node's entry lies on the medium and says what the node is -/
def pz_kept (k : Nat) (w : Nat → Nat) (t : pz_T) : Prop := ∀ n, n < 8 → pz_kd t n ≠ 0 → pz_ch t n = false →
  1 ≤ pz_en t n ∧ pz_en t n ≤ k ∧ w (16 * (pz_en t n - 1) + 4) = pz_kd t n ∧ w (16 * (pz_en t n - 1) + 5) = pz_ct t n ∧ ∀ j, j < pz_ct t n → w (16 * (pz_en t n - 1) + 6 + j) = pz_it t n j
/-- THE INVARIANT of a state -/
def pz_inv (S : pz_S) : Prop := match S with
  | (n, k, w, sp, t) => 16 ≤ n ∧ n ≤ 128 ∧ k ≤ n ∧ sp ≤ 1001 ∧ (∀ x, w x < 65536) ∧ (∀ x, 16 * k ≤ x → w x = 0)
    ∧ pz_wf k t ∧ pz_kept k w t
    ∧ ∀ p, p < k → w (16 * p) = 3 → (∀ i, i < 8 → pz_nm w p i ≤ p) ∧ pz_wf k (pz_read w p)
