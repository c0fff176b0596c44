/- what each call answers and does, in the words of the mathematical state -/
def pz_no (x : Int32) : Nat := if pz_small x 8 = true then x.toNatClampNeg else 8
theorem pz_no_N {j : Nat} (h : j < 8) : pz_no (nI j) = j := by
  unfold pz_no
  rw [if_pos (pz_small_N (by omega) h), nI_clamp (by omega)]
theorem pz_no_8 {x : Int32} (h : pz_small x 8 = false) : pz_no x = 8 := by
  unfold pz_no
  rw [if_neg (by rw [h]; decide)]
/-- the node that x names, if it is there and as asked -/
def pz_nd (t : pz_T) (P : Nat → Bool) (x : Int32) : Option Nat := if pz_no x < 8 ∧ P (pz_kd t (pz_no x)) = true then some (pz_no x) else none
def pz_up {α : Type} (f : Nat → α) (i : Nat) (v : α) : Nat → α := fun j => if j = i then v else f j
/-- how many nodes are changed, were a and b so too, and gone not -/
def pz_cw (ch : Nat → Bool) (a b gone : Nat) : Nat → Nat := pz_cp (fun n => (ch n || n == a || n == b) && n != gone)
def pz_new (t : pz_T) (m kind : Nat) : pz_T := (pz_up (pz_kd t) m kind, pz_up (pz_ct t) m 0, pz_up (pz_ch t) m true, pz_up (pz_en t) m 0, pz_it t)
def pz_gone (t : pz_T) (m : Nat) : pz_T := (pz_up (pz_kd t) m 0, pz_up (pz_ct t) m 0, pz_up (pz_ch t) m false, pz_up (pz_en t) m 0, pz_it t)
def pz_add (t : pz_T) (d v : Nat) : pz_T := (pz_kd t, pz_up (pz_ct t) d (pz_ct t d + 1), pz_up (pz_ch t) d true, pz_en t, pz_up (pz_it t) d (pz_up (pz_it t d) (pz_ct t d) v))
def pz_take (t : pz_T) (d j : Nat) : pz_T := (pz_kd t, pz_up (pz_ct t) d (pz_ct t d - 1), pz_up (pz_ch t) d true, pz_en t, pz_up (pz_it t) d (fun i => if i < j then pz_it t d i else pz_it t d (i + 1)))
def pz_blk (t : pz_T) (f j v : Nat) : pz_T := (pz_kd t, pz_up (pz_ct t) f (if j = pz_ct t f then j + 1 else pz_ct t f), pz_up (pz_ch t) f true, pz_en t, pz_up (pz_it t) f (pz_up (pz_it t f) j v))
-- who is above whom
/-- is node c among the first items -/
def pz_hd (f : Nat → Nat) (c : Nat) : Nat → Bool | 0 => false | j + 1 => pz_hd f c j || (f j % 16 == c)
def pz_hold (t : pz_T) (d c : Nat) : Nat → Bool := pz_hd (pz_it t d) c
def oI (o : Option Nat) : Int32 := match o with
  | none => -1
  | some j => nI j
def pz_par (t : pz_T) (c : Nat) : Nat → Option Nat | 0 => none | n + 1 => match pz_par t c n with
  | some i => some i
  | none => if pz_kd t n = 1 ∧ pz_hold t n c (pz_ct t n) = true then some n else none
def pz_anc (t : pz_T) (c : Nat) : Nat → Option Nat | 0 => some c | k + 1 => (pz_anc t c k).bind (fun x => pz_par t x 8)
def pz_below (t : pz_T) (c h : Nat) : Nat → Bool | 0 => false | k + 1 => pz_below t c h k || (pz_anc t c k == some h)
-- one sector
def pz_put (w : Nat → Nat) (k : Nat) (f : Nat → Nat) : Nat → Nat := fun x => if 16 * k ≤ x ∧ x < 16 * k + 16 then f (x - 16 * k) else w x
/-- the words once sector f (its word 1 not looked at) is written at place k, torn or not -/
def pz_sec (w : Nat → Nat) (k : Nat) (f : Nat → Nat) (torn : Bool) : Nat → Nat := fun x =>
  if x = 16 * k + 1 then (if torn = true then pz_chkN f 16 ^^^ 1 else pz_chkN f 16) else pz_put w k f x
def pz_data (k file v : Nat) : Nat → Nat := fun i => if i = 0 then 1 else if i = 2 then k else if i = 3 then file else if i = 4 then v else 0
def pz_entry (k n : Nat) (t : pz_T) : Nat → Nat := fun i => if i = 0 then 2 else if i = 2 then k else if i = 3 then n else if i = 4 then pz_kd t n else if i = 5 then pz_ct t n else if 6 ≤ i ∧ i < 6 + pz_ct t n then pz_it t n (i - 6) else 0
def pz_table (k num : Nat) (en : Nat → Nat) : Nat → Nat := fun i => if i = 0 then 3 else if i = 2 then k else if i = 3 then num else if 4 ≤ i ∧ i < 12 then en (i - 4) else 0
/-- the entries of the changed nodes below i: (written, words, stop + 1, entries + 1), and whether one tore -/
def pz_es (t : pz_T) (k : Nat) (w : Nat → Nat) (sp : Nat) : Nat → (Nat × (Nat → Nat) × Nat × (Nat → Nat)) × Bool
  | 0 => ((k, w, sp, pz_en t), false)
  | i + 1 => match pz_es t k w sp i with
    | (s, true) => (s, true)
    | ((k', w', sp', en'), false) => if pz_ch t i = true then ((k' + 1, pz_sec w' k' (pz_entry k' i t) (sp' == 1), sp' - 1, pz_up en' i (k' + 1)), sp' == 1) else ((k', w', sp', en'), false)
def pz_num (w : Nat → Nat) (k : Nat) : Nat := match pz_newest w k with | none => 0 | some p => w (16 * p + 3)
/-- WELL FORMED TREES over k written sectors -/
def pz_sm (g : Nat → Nat) : Nat → Nat | 0 => 0 | n + 1 => pz_sm g n + g n
def pz_gd (t : pz_T) (n : Nat) : Nat := if pz_kd t n = 1 then pz_ct t n else 0
def pz_gc (t : pz_T) (n : Nat) : Nat := if pz_kd t n = 0 then 0 else 1
def pz_sumd (t : pz_T) : Nat → Nat := pz_sm (pz_gd t)
def pz_cnt (t : pz_T) : Nat → Nat := pz_sm (pz_gc t)
def pz_wf (k : Nat) (t : pz_T) : Prop :=
  pz_kd t 0 = 1 ∧ (∀ n, n < 8 → pz_kd t n ≤ 2) ∧ (∀ n, n < 8 → pz_kd t n = 0 → pz_ct t n = 0 ∧ pz_ch t n = false ∧ pz_en t n = 0)
  ∧ (∀ n, n < 8 → pz_kd t n = 2 → pz_ct t n ≤ 10 ∧ ∀ j, j < pz_ct t n → pz_it t n j < k)
  ∧ (∀ n, n < 8 → pz_kd t n = 1 → ∀ j, j < pz_ct t n → pz_it t n j / 16 < 100 ∧ pz_it t n j % 16 < 8 ∧ pz_it t n j % 16 ≠ 0 ∧ pz_it t n j % 16 ≠ n ∧ pz_kd t (pz_it t n j % 16) ≠ 0)
  ∧ (∀ n j n' j', n < 8 → n' < 8 → pz_kd t n = 1 → pz_kd t n' = 1 → j < pz_ct t n → j' < pz_ct t n' → pz_it t n j % 16 = pz_it t n' j' % 16 → n = n' ∧ j = j')
  ∧ pz_sumd t 8 + 1 = pz_cnt t 8
/-- an unchanged node's entry lies on the medium and says what the node is -/
def pz_kept (k : Nat) (w : Nat → Nat) (t : pz_T) : Prop := ∀ n, n < 8 → pz_kd t n ≠ 0 → pz_ch t n = false →
  1 ≤ pz_en t n ∧ pz_en t n ≤ k ∧ w (16 * (pz_en t n - 1) + 4) = pz_kd t n ∧ w (16 * (pz_en t n - 1) + 5) = pz_ct t n ∧ ∀ j, j < pz_ct t n → w (16 * (pz_en t n - 1) + 6 + j) = pz_it t n j
/-- THE INVARIANT of a state -/
def pz_inv (S : pz_S) : Prop := match S with
  | (n, k, w, sp, t) => 16 ≤ n ∧ n ≤ 128 ∧ k ≤ n ∧ sp ≤ 1001 ∧ (∀ x, w x < 65536) ∧ (∀ x, 16 * k ≤ x → w x = 0)
    ∧ pz_wf k t ∧ pz_kept k w t
    ∧ ∀ p, p < k → w (16 * p) = 3 → (∀ i, i < 8 → pz_nm w p i ≤ p) ∧ pz_wf k (pz_read w p) ∧ w (16 * p + 3) ≤ p + 1
