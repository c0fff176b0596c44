/- THE MATHEMATICAL STATE that the class and the reference are both tied to. Own names: pz_ .
   A tree is (kd, ct, ch, en, it): kind, count, changed, entry + 1 (0: none), items or blocks by node.
   A state is (n, k, w, sp, t): sectors, written, the words (flat: 16 * place + i), the stop + 1 (0: none), the tree. -/
abbrev pz_T : Type := (Nat → Nat) × (Nat → Nat) × (Nat → Bool) × (Nat → Nat) × (Nat → Nat → Nat)
abbrev pz_kd (t : pz_T) : Nat → Nat := t.1
abbrev pz_ct (t : pz_T) : Nat → Nat := t.2.1
abbrev pz_ch (t : pz_T) : Nat → Bool := t.2.2.1
abbrev pz_en (t : pz_T) : Nat → Nat := t.2.2.2.1
abbrev pz_it (t : pz_T) : Nat → Nat → Nat := t.2.2.2.2
abbrev pz_S : Type := Nat × Nat × (Nat → Nat) × Nat × pz_T
-- the check
def pz_bit (c : Nat) : Nat := if c < 32768 then 2 * c else (2 * c - 65536) ^^^ 4129
def pz_bits : Nat → Nat → Nat | 0, c => c | j + 1, c => pz_bit (pz_bits j c)
def pz_byte (c b : Nat) : Nat := pz_bits 8 (c ^^^ 256 * b)
def pz_crcw (c v : Nat) : Nat := pz_byte (pz_byte (pz_byte (pz_byte c (v / 2 ^ 24 % 2 ^ 8)) (v / 2 ^ 16 % 2 ^ 8)) (v / 2 ^ 8 % 2 ^ 8)) (v / 2 ^ 0 % 2 ^ 8)
def pz_chkN (f : Nat → Nat) : Nat → Nat | 0 => 65535 | i + 1 => if i = 1 then pz_chkN f i else pz_crcw (pz_chkN f i) (f i)
def pz_chk (w : Nat → Nat) (p : Nat) : Nat := pz_chkN (fun i => w (16 * p + i)) 16
theorem pz_xor_lt {a b j : Nat} (ha : a < 2 ^ j) (hb : b < 2 ^ j) : a ^^^ b < 2 ^ j := Nat.xor_lt_two_pow ha hb
theorem pz_bit_lt {c : Nat} (h : c < 65536) : pz_bit c < 65536 := by
  unfold pz_bit
  split
  · omega
  · exact pz_xor_lt (j := 16) (by omega) (by omega)
theorem pz_bits_lt {c : Nat} (h : c < 65536) : ∀ j, pz_bits j c < 65536
  | 0 => h
  | j + 1 => pz_bit_lt (pz_bits_lt h j)
theorem pz_byte_lt {c b : Nat} (h : c < 65536) (hb : b < 256) : pz_byte c b < 65536 := pz_bits_lt (pz_xor_lt (j := 16) (by omega) (by omega)) 8
theorem pz_crcw_lt {c v : Nat} (h : c < 65536) : pz_crcw c v < 65536 := by
  have hm : ∀ x : Nat, x % 2 ^ 8 < 256 := fun x => Nat.mod_lt _ (by omega)
  unfold pz_crcw
  exact pz_byte_lt (pz_byte_lt (pz_byte_lt (pz_byte_lt h (hm _)) (hm _)) (hm _)) (hm _)
theorem pz_chkN_lt (f : Nat → Nat) : ∀ i, pz_chkN f i < 65536
  | 0 => by show 65535 < 65536; omega
  | i + 1 => by
    show (if i = 1 then pz_chkN f i else pz_crcw (pz_chkN f i) (f i)) < 65536
    split
    · exact pz_chkN_lt f i
    · exact pz_crcw_lt (pz_chkN_lt f i)
theorem pz_chk_lt (w : Nat → Nat) (p : Nat) : pz_chk w p < 65536 := pz_chkN_lt _ 16
theorem pz_chkN_ext {f g : Nat → Nat} : ∀ i, (∀ j, j < i → j ≠ 1 → f j = g j) → pz_chkN f i = pz_chkN g i
  | 0, _ => rfl
  | i + 1, h => by
    show (if i = 1 then pz_chkN f i else pz_crcw (pz_chkN f i) (f i)) = (if i = 1 then pz_chkN g i else pz_crcw (pz_chkN g i) (g i))
    rw [pz_chkN_ext i (fun j hj h1 => h j (by omega) h1)]
    split
    · rfl
    · rename_i hi
      rw [h i (by omega) hi]
/-- the check doesn't look at word 1 -/
theorem pz_chk_ext {w v : Nat → Nat} {p : Nat} (h : ∀ i, i < 16 → i ≠ 1 → w (16 * p + i) = v (16 * p + i)) : pz_chk w p = pz_chk v p := pz_chkN_ext 16 h
-- good sectors, valid tables
def pz_good (w : Nat → Nat) (p : Nat) : Bool := w (16 * p + 1) == pz_chk w p
def pz_nm (w : Nat → Nat) (p n : Nat) : Nat := w (16 * p + 4 + n)
def pz_ents (w : Nat → Nat) (p : Nat) : Nat → Bool | 0 => true | n + 1 => pz_ents w p n && (pz_nm w p n == 0 || pz_good w (pz_nm w p n - 1))
def pz_valid (w : Nat → Nat) (p : Nat) : Bool := w (16 * p) == 3 && pz_good w p && pz_ents w p 8
def pz_tabs (w : Nat → Nat) : Nat → Nat | 0 => 0 | p + 1 => pz_tabs w p + (if pz_valid w p = true then 1 else 0)
def pz_newest (w : Nat → Nat) : Nat → Option Nat | 0 => none | p + 1 => if pz_valid w p = true then some p else pz_newest w p
/-- the first place below k where the count of valid tables comes to be a -/
def pz_tabAt (w : Nat → Nat) (a : Int32) : Nat → Option Nat | 0 => none | p + 1 => match pz_tabAt w a p with
  | some q => some q
  | none => if pz_valid w p = true ∧ nI (pz_tabs w (p + 1)) = a then some p else none
-- trees
def pz_empty : pz_T := (fun n => if n = 0 then 1 else 0, fun _ => 0, fun n => n == 0, fun _ => 0, fun _ _ => 0)
def pz_read (w : Nat → Nat) (p : Nat) : pz_T :=
  (fun n => if pz_nm w p n = 0 then 0 else w (16 * (pz_nm w p n - 1) + 4),
   fun n => if pz_nm w p n = 0 then 0 else w (16 * (pz_nm w p n - 1) + 5),
   fun _ => false, fun n => pz_nm w p n, fun n j => w (16 * (pz_nm w p n - 1) + 6 + j))
def pz_back (w : Nat → Nat) (k : Nat) : pz_T := match pz_newest w k with | none => pz_empty | some p => pz_read w p
/-- how many below N have it -/
def pz_cp (P : Nat → Bool) : Nat → Nat | 0 => 0 | n + 1 => pz_cp P n + (if P n = true then 1 else 0)
theorem pz_cp_ext {P Q : Nat → Bool} : ∀ N, (∀ n, n < N → P n = Q n) → pz_cp P N = pz_cp Q N
  | 0, _ => rfl
  | N + 1, h => by
    show pz_cp P N + _ = pz_cp Q N + _
    rw [pz_cp_ext N (fun n hn => h n (by omega)), h N (by omega)]
theorem pz_cp_flip {P Q : Nat → Bool} {x : Nat} (hx : P x = false) (hq : Q x = true) : ∀ N, x < N → (∀ n, n < N → n ≠ x → Q n = P n) → pz_cp Q N = pz_cp P N + 1
  | 0, h, _ => by omega
  | N + 1, h, ho => by
    show pz_cp Q N + _ = pz_cp P N + _ + 1
    by_cases hN : x = N
    · subst hN
      rw [hx, hq, pz_cp_ext (P := Q) (Q := P) x (fun n hn => ho n (by omega) (by omega))]
      simp
    · rw [pz_cp_flip hx hq N (by omega) (fun n hn h1 => ho n (by omega) h1), ho N (by omega) (fun e => hN e.symm)]
      omega
theorem pz_cp_le (P : Nat → Bool) : ∀ N, pz_cp P N ≤ N
  | 0 => Nat.le_refl 0
  | N + 1 => by
    have := pz_cp_le P N
    show pz_cp P N + (if P N = true then 1 else 0) ≤ N + 1
    split <;> omega
def pz_nch (t : pz_T) : Nat → Nat := pz_cp (pz_ch t)
/-- the first place j < c whose name is nm -/
def pz_ix (f : Nat → Nat) (nm : Int32) : Nat → Option Nat | 0 => none | j + 1 => match pz_ix f nm j with
  | some i => some i
  | none => if nI (f j / 16) = nm then some j else none
def pz_least (kd : Nat → Nat) : Nat → Option Nat | 0 => none | n + 1 => match pz_least kd n with
  | some i => some i
  | none => if kd n = 0 then some n else none
