/- what a newly written sector changes -/
theorem pz_sec_old {w f : Nat → Nat} {k x : Nat} {b : Bool} (hx : x < 16 * k) : pz_sec w k f b x = w x := by
  unfold pz_sec pz_put
  rw [if_neg (by omega), if_neg (by omega)]
theorem pz_sec_far {w f : Nat → Nat} {k x : Nat} {b : Bool} (hx : 16 * k + 16 ≤ x) : pz_sec w k f b x = w x := by
  unfold pz_sec pz_put
  rw [if_neg (by omega), if_neg (by omega)]
theorem pz_sec_new {w f : Nat → Nat} {k i : Nat} {b : Bool} (hi : i < 16) (h1 : i ≠ 1) : pz_sec w k f b (16 * k + i) = f i := by
  unfold pz_sec pz_put
  rw [if_neg (by omega), if_pos (by omega), show 16 * k + i - 16 * k = i by omega]
theorem pz_sec_1 {w f : Nat → Nat} {k : Nat} {b : Bool} : pz_sec w k f b (16 * k + 1) = if b = true then pz_chkN f 16 ^^^ 1 else pz_chkN f 16 := by
  unfold pz_sec
  rw [if_pos rfl]
theorem pz_chk_old {w f : Nat → Nat} {k p : Nat} {b : Bool} (hp : p < k) : pz_chk (pz_sec w k f b) p = pz_chk w p :=
  pz_chk_ext (fun i hi _ => pz_sec_old (by omega))
theorem pz_chk_new {w f : Nat → Nat} {k : Nat} {b : Bool} : pz_chk (pz_sec w k f b) k = pz_chkN f 16 :=
  pz_chkN_ext 16 (fun i hi h1 => pz_sec_new hi h1)
theorem pz_good_old {w f : Nat → Nat} {k p : Nat} {b : Bool} (hp : p < k) : pz_good (pz_sec w k f b) p = pz_good w p := by
  unfold pz_good
  rw [pz_chk_old hp, pz_sec_old (by omega)]
theorem pz_xor1_ne (a : Nat) : a ^^^ 1 ≠ a := by
  intro h
  have h2 : a ^^^ (a ^^^ 1) = a ^^^ a := by rw [h]
  rw [← Nat.xor_assoc, Nat.xor_self, Nat.zero_xor] at h2
  omega
theorem pz_good_new {w f : Nat → Nat} {k : Nat} {b : Bool} : pz_good (pz_sec w k f b) k = !b := by
  unfold pz_good
  rw [pz_chk_new, pz_sec_1]
  cases b with
  | true => simp [pz_xor1_ne]
  | false => simp
theorem pz_nm_old {w f : Nat → Nat} {k p i : Nat} {b : Bool} (hp : p < k) (hi : i < 8) : pz_nm (pz_sec w k f b) p i = pz_nm w p i := by
  unfold pz_nm
  rw [pz_sec_old (by omega)]
theorem pz_ents_ext {w v : Nat → Nat} {p : Nat} : ∀ n, (∀ i, i < n → pz_nm w p i = pz_nm v p i ∧ (pz_nm v p i = 0 ∨ pz_good w (pz_nm v p i - 1) = pz_good v (pz_nm v p i - 1))) → pz_ents w p n = pz_ents v p n
  | 0, _ => rfl
  | n + 1, h => by
    show (pz_ents w p n && (pz_nm w p n == 0 || pz_good w (pz_nm w p n - 1))) = (pz_ents v p n && (pz_nm v p n == 0 || pz_good v (pz_nm v p n - 1)))
    obtain ⟨h1, h2⟩ := h n (by omega)
    rw [pz_ents_ext n (fun i hi => h i (by omega)), h1]
    rcases h2 with h2 | h2
    · rw [h2, show ((0 : Nat) == 0) = true from rfl, Bool.true_or, Bool.true_or]
    · rw [h2]
theorem pz_valid_old {w f : Nat → Nat} {k p : Nat} {b : Bool} (hp : p < k) (hn : w (16 * p) = 3 → ∀ i, i < 8 → pz_nm w p i ≤ p) : pz_valid (pz_sec w k f b) p = pz_valid w p := by
  unfold pz_valid
  rw [pz_good_old hp, pz_sec_old (by omega)]
  by_cases h3 : w (16 * p) = 3
  · rw [pz_ents_ext (w := pz_sec w k f b) (v := w) 8 (fun i hi => ⟨pz_nm_old hp hi, ?_⟩)]
    rcases Nat.eq_zero_or_pos (pz_nm w p i) with h0 | h0
    · exact Or.inl h0
    · have := hn h3 i hi
      exact Or.inr (pz_good_old (by omega))
  · rw [show (w (16 * p) == 3) = false by simp [h3], Bool.false_and, Bool.false_and, Bool.false_and]
theorem pz_newest_ext {w v : Nat → Nat} : ∀ k, (∀ p, p < k → pz_valid w p = pz_valid v p) → pz_newest w k = pz_newest v k
  | 0, _ => rfl
  | k + 1, h => by
    show (if pz_valid w k = true then some k else pz_newest w k) = (if pz_valid v k = true then some k else pz_newest v k)
    rw [h k (by omega), pz_newest_ext k (fun p hp => h p (by omega))]
theorem pz_newest_lt {w : Nat → Nat} {p : Nat} : ∀ k, pz_newest w k = some p → p < k ∧ pz_valid w p = true
  | 0, h => by cases h
  | k + 1, h => by
    have h : (if pz_valid w k = true then some k else pz_newest w k) = some p := h
    by_cases hv : pz_valid w k = true
    · rw [if_pos hv] at h
      cases h
      exact ⟨by omega, hv⟩
    · rw [if_neg hv] at h
      obtain ⟨h1, h2⟩ := pz_newest_lt k h
      exact ⟨by omega, h2⟩
theorem pz_tabAt_lt {w : Nat → Nat} {a : Int32} {p : Nat} : ∀ k, pz_tabAt w a k = some p → p < k ∧ pz_valid w p = true
  | 0, h => by cases h
  | k + 1, h => by
    unfold pz_tabAt at h
    cases hq : pz_tabAt w a k with
    | some q =>
      rw [hq] at h
      cases h
      obtain ⟨h1, h2⟩ := pz_tabAt_lt k hq
      exact ⟨by omega, h2⟩
    | none =>
      rw [hq] at h
      have h : (if pz_valid w k = true ∧ nI (pz_tabs w (k + 1)) = a then some k else none) = some p := h
      by_cases hv : pz_valid w k = true ∧ nI (pz_tabs w (k + 1)) = a
      · rw [if_pos hv] at h
        cases h
        exact ⟨by omega, hv.1⟩
      · rw [if_neg hv] at h
        cases h
theorem pz_valid_3 {w : Nat → Nat} {p : Nat} (h : pz_valid w p = true) : w (16 * p) = 3 := by
  unfold pz_valid at h
  simp only [Bool.and_eq_true, beq_iff_eq] at h
  exact h.1.1
