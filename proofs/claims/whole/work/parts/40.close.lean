/-- what holds while the entries are being written -/
theorem pz_es_ok {t : pz_T} {k sp n : Nat} {w : Nat → Nat} (hi : iz k w) (h0 : ∀ x, 16 * k ≤ x → w x = 0) (hk : k + pz_nch t 8 < n) (hn : n ≤ 128) : ∀ j, j ≤ 8 → iz (pz_es t k w sp j).1.1 (pz_es t k w sp j).1.2.1 ∧ (∀ x, 16 * (pz_es t k w sp j).1.1 ≤ x → (pz_es t k w sp j).1.2.1 x = 0) ∧ (pz_es t k w sp j).1.1 ≤ k + pz_nch t j ∧ k ≤ (pz_es t k w sp j).1.1 ∧ (∀ x, x < 16 * k → (pz_es t k w sp j).1.2.1 x = w x) ∧ (∀ p, k ≤ p → p < (pz_es t k w sp j).1.1 → (pz_es t k w sp j).1.2.1 (16 * p) = 2) := by
  intro j
  induction j with
  | zero => exact fun _ => ⟨hi, h0, Nat.le_add_right k _, Nat.le_refl k, fun x _ => rfl, fun p h1 h2 => absurd h2 (by show ¬ p < k; omega)⟩
  | succ j ih =>
    intro hj
    obtain ⟨a1, a2, a3, a4, a5, a7⟩ := ih (by omega)
    have hnc : pz_nch t (j + 1) = pz_nch t j + (if pz_ch t j = true then 1 else 0) := rfl
    have hmono : pz_nch t (j + 1) ≤ pz_nch t 8 := pz_cp_mono (by omega)
    cases hb : (pz_es t k w sp j).2 with
    | true =>
      rw [pz_es_t hb 1]
      exact ⟨a1, a2, by omega, a4, a5, a7⟩
    | false =>
      rcases hes : pz_es t k w sp j with ⟨⟨k', w', sp', en'⟩, b⟩
      rw [hes] at hb a1 a2 a3 a4 a5 a7
      have hb : b = false := hb
      subst hb
      rw [pz_es_s hes]
      have a3 : k' ≤ k + pz_nch t j := a3
      have a4 : k ≤ k' := a4
      by_cases hc : pz_ch t j = true
      · rw [if_pos hc] at hnc ⊢
        refine ⟨iz_sec a1 (by show (2 : Nat) ≠ 3; omega), pz_sec_zero a2, by show k' + 1 ≤ _; omega, by show k ≤ k' + 1; omega, fun x hx => ?_, fun p h1 h2 => ?_⟩
        · show pz_sec w' k' _ _ x = w x
          rw [pz_sec_old (by omega)]
          exact a5 x hx
        · have h2 : p < k' + 1 := h2
          show pz_sec w' k' _ _ (16 * p) = 2
          by_cases hpk : p = k'
          · subst hpk
            have h3 : pz_sec w' p (pz_entry p j t) (sp' == 1) (16 * p + 0) = pz_entry p j t 0 := pz_sec_new (by omega) (by omega)
            exact h3
          · rw [pz_sec_old (by omega)]
            exact a7 p h1 (show p < k' by omega)
      · rw [if_neg hc] at hnc ⊢
        exact ⟨a1, a2, by show k' ≤ _; omega, a4, a5, a7⟩
theorem pz_es_k {t : pz_T} {k sp : Nat} {w : Nat → Nat} : ∀ j, (pz_es t k w sp j).2 = false → (pz_es t k w sp j).1.1 = k + pz_nch t j
  | 0, _ => rfl
  | j + 1, h => by
    cases hb : (pz_es t k w sp j).2 with
    | true =>
      rw [pz_es_t hb 1, hb] at h
      cases h
    | false =>
      have ih := pz_es_k j hb
      rcases hes : pz_es t k w sp j with ⟨⟨k', w', sp', en'⟩, b⟩
      rw [hes] at hb ih
      have hb : b = false := hb
      subst hb
      have ih : k' = k + pz_nch t j := ih
      have hnc : pz_nch t (j + 1) = pz_nch t j + (if pz_ch t j = true then 1 else 0) := rfl
      rw [pz_es_s hes]
      by_cases hc : pz_ch t j = true
      · rw [if_pos hc] at hnc ⊢
        show k' + 1 = _
        omega
      · rw [if_neg hc] at hnc ⊢
        show k' = _
        omega
/-- sectors that are no tables don't change which table is the newest -/
theorem pz_newest_more {w w' : Nat → Nat} {k k' : Nat} (hi : iz k w) (hk : k ≤ k') (ho : ∀ x, x < 16 * k → w' x = w x) (h2 : ∀ p, k ≤ p → p < k' → w' (16 * p) = 2) : pz_newest w' k' = pz_newest w k := by
  have hold : ∀ p, p < k → pz_valid w' p = pz_valid w p := fun p hp => by
    have hg : ∀ q, q < k → pz_good w' q = pz_good w q := fun q hq => by
      unfold pz_good
      rw [ho _ (by omega), pz_chk_ext (w := w') (v := w) (fun i hi _ => ho _ (by omega))]
    unfold pz_valid
    rw [hg p hp, ho _ (by omega)]
    by_cases h3 : w (16 * p) = 3
    · rw [pz_ents_ext (w := w') (v := w) 8 (fun i hi8 => ⟨?_, ?_⟩)]
      · unfold pz_nm; rw [ho _ (by omega)]
      · obtain ⟨h1, -⟩ := hi p hp h3 i hi8
        rcases Nat.eq_zero_or_pos (pz_nm w p i) with h0 | h0
        · exact Or.inl h0
        · exact Or.inr (hg _ (by omega))
    · rw [show (w (16 * p) == 3) = false by simp [h3], Bool.false_and, Bool.false_and, Bool.false_and]
  have key : ∀ m, k + m ≤ k' → pz_newest w' (k + m) = pz_newest w k := by
    intro m
    induction m with
    | zero => exact fun _ => pz_newest_ext k hold
    | succ m ih =>
      intro hm
      have hv : pz_valid w' (k + m) = false := by
        unfold pz_valid
        rw [h2 (k + m) (by omega) (by omega), show ((2 : Nat) == 3) = false from rfl, Bool.false_and, Bool.false_and]
      show (if pz_valid w' (k + m) = true then some (k + m) else pz_newest w' (k + m)) = _
      rw [hv, if_neg (by decide)]
      exact ih (by omega)
  have := key (k' - k) (by omega)
  rw [show k + (k' - k) = k' by omega] at this
  exact this
theorem iz_tab {k num : Nat} {w en : Nat → Nat} {b : Bool} (hi : iz k w) (hen : ∀ i, i < 8 → en i ≤ k ∧ (en i = 0 ∨ w (16 * (en i - 1) + 5) ≤ 10)) : iz (k + 1) (pz_sec w k (pz_table k num en) b) := by
  intro p hp h3 i hi8
  by_cases hpk : p = k
  · subst hpk
    have h4 : pz_nm (pz_sec w p (pz_table p num en) b) p i = en i := by
      unfold pz_nm
      rw [Nat.add_assoc, pz_sec_new (by omega) (by omega)]
      unfold pz_table
      rw [if_neg (by omega), if_neg (by omega), if_neg (by omega), if_pos (by omega), show 4 + i - 4 = i by omega]
    rw [h4]
    obtain ⟨h1, h2⟩ := hen i hi8
    refine ⟨h1, ?_⟩
    rcases h2 with h2 | h2
    · exact Or.inl h2
    · by_cases hz : en i = 0
      · exact Or.inl hz
      · refine Or.inr ?_
        rw [pz_sec_old (by omega)]
        exact h2
  · rw [pz_sec_old (by omega)] at h3
    obtain ⟨h1, h2⟩ := hi p (by omega) h3 i hi8
    rw [pz_nm_old (by omega) hi8]
    refine ⟨h1, ?_⟩
    rcases h2 with h2 | h2
    · exact Or.inl h2
    · by_cases hz : pz_nm w p i = 0
      · exact Or.inl hz
      · refine Or.inr ?_
        rw [pz_sec_old (by omega)]
        exact h2
