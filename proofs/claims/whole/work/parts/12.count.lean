theorem pz_beq_ne {a b : Nat} (h : a ≠ b) : (a == b) = false := by simp [h]
theorem pz_cp_or {P : Nat → Bool} {x N : Nat} (hx : x < N) : pz_cp (fun n => P n || n == x) N = pz_cp P N + (if P x = true then 0 else 1) := by
  by_cases hP : P x = true
  · rw [if_pos hP, Nat.add_zero]
    apply pz_cp_ext
    intro n _
    show (P n || n == x) = P n
    by_cases hn : n = x
    · subst hn; simp [hP]
    · rw [pz_beq_ne hn, Bool.or_false]
  · rw [if_neg hP]
    have hf : P x = false := by cases h : P x with | true => exact absurd h hP | false => rfl
    refine pz_cp_flip (x := x) hf (by show (P x || x == x) = true; simp) N hx (fun n _ hn => ?_)
    show (P n || n == x) = P n
    rw [pz_beq_ne hn, Bool.or_false]
theorem pz_cp_and {P : Nat → Bool} {x N : Nat} (hx : x < N) : pz_cp (fun n => P n && n != x) N + (if P x = true then 1 else 0) = pz_cp P N := by
  by_cases hP : P x = true
  · rw [if_pos hP]
    refine (pz_cp_flip (x := x) (by show (P x && x != x) = false; simp) hP N hx (fun n _ hn => ?_)).symm
    show P n = (P n && n != x)
    simp [hn]
  · rw [if_neg hP, Nat.add_zero]
    have hf : P x = false := by cases h : P x with | true => exact absurd h hP | false => rfl
    apply pz_cp_ext
    intro n _
    show (P n && n != x) = P n
    by_cases hn : n = x
    · subst hn; simp [hf]
    · simp [hn]
theorem pz_e8 {n : Nat} (h : n < 8) : (n == 8) = false := pz_beq_ne (by omega)
theorem pz_n8 {n : Nat} (h : n < 8) : (n != 8) = true := by rw [bne, pz_e8 h]; rfl
theorem pz_cw_none (ch : Nat → Bool) : pz_cw ch 8 8 8 8 = pz_cp ch 8 := by
  unfold pz_cw
  apply pz_cp_ext
  intro n hn
  simp only [pz_e8 hn, pz_n8 hn, Bool.or_false, Bool.and_true]
theorem pz_cw_one {ch : Nat → Bool} {f : Nat} (hf : f < 8) : pz_cw ch f 8 8 8 = pz_cp ch 8 + (if ch f = true then 0 else 1) := by
  rw [← pz_cp_or hf]
  unfold pz_cw
  apply pz_cp_ext
  intro n hn
  simp only [pz_e8 hn, pz_n8 hn, Bool.or_false, Bool.and_true]
theorem pz_cw_same {ch : Nat → Bool} {f : Nat} : pz_cw ch f f 8 8 = pz_cw ch f 8 8 8 := by
  unfold pz_cw
  apply pz_cp_ext
  intro n hn
  show ((ch n || n == f || n == f) && n != 8) = ((ch n || n == f || n == 8) && n != 8)
  rw [pz_e8 hn, pz_n8 hn, Bool.or_false, Bool.or_assoc, Bool.or_self]
theorem pz_cw_two {ch : Nat → Bool} {a b : Nat} (ha : a < 8) (hb : b < 8) (hab : b ≠ a) : pz_cw ch a b 8 8 = pz_cp ch 8 + (if ch a = true then 0 else 1) + (if ch b = true then 0 else 1) := by
  have h1 := pz_cp_or (P := fun n => ch n || n == a) (x := b) (N := 8) hb
  have h2 := pz_cp_or (P := ch) (x := a) (N := 8) ha
  rw [h2] at h1
  have h3 : (ch b || b == a) = ch b := by rw [pz_beq_ne hab, Bool.or_false]
  simp only [h3] at h1
  rw [← h1]
  unfold pz_cw
  apply pz_cp_ext
  intro n hn
  simp only [pz_e8 hn, pz_n8 hn, Bool.or_false, Bool.and_true]
theorem pz_cw_gone {ch : Nat → Bool} {f m : Nat} (hf : f < 8) (hm : m < 8) (hfm : m ≠ f) : pz_cw ch f 8 m 8 + (if ch m = true then 1 else 0) = pz_cp ch 8 + (if ch f = true then 0 else 1) := by
  rw [← pz_cp_or hf]
  have h1 := pz_cp_and (P := fun n => ch n || n == f) (x := m) (N := 8) hm
  have h3 : (ch m || m == f) = ch m := by rw [pz_beq_ne hfm, Bool.or_false]
  simp only [h3] at h1
  rw [← h1]
  congr 1
  unfold pz_cw
  apply pz_cp_ext
  intro n hn
  simp only [pz_e8 hn, pz_n8 hn, Bool.or_false, Bool.and_true]
