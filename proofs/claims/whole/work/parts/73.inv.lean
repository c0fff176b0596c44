theorem pz_it_lt {k : Nat} {t : pz_T} (h : pz_wf k t) (hk : k ≤ 128) {i s : Nat} (hi : i < 8) (hs : s < pz_ct t i) : pz_it t i s < 65536 := by
  have h2 := h.2.1 i hi
  by_cases h0 : pz_kd t i = 0
  · rw [(h.2.2.1 i hi h0).1] at hs; omega
  · by_cases h1 : pz_kd t i = 1
    · have := h.2.2.2.2.1 i hi h1 s hs
      omega
    · have := (h.2.2.2.1 i hi (by omega)).2 s hs
      omega
theorem pz_es_med {t : pz_T} {k sp n : Nat} {w : Nat → Nat} (hm : pz_med k w) (hw : pz_wf k t) (hk : k + pz_nch t 8 < n) (hn : n ≤ 128) (hsp : sp ≤ 1001) : ∀ j, j ≤ 8 → pz_med (pz_es t k w sp j).1.1 (pz_es t k w sp j).1.2.1 ∧ (pz_es t k w sp j).1.2.2.1 ≤ 1001 ∧ (pz_es t k w sp j).1.1 ≤ k + pz_nch t j := by
  intro j
  induction j with
  | zero => exact fun _ => ⟨hm, hsp, Nat.le_add_right k _⟩
  | succ j ih =>
    intro hj
    obtain ⟨a1, a2, a3⟩ := ih (by omega)
    have hnc : pz_nch t (j + 1) = pz_nch t j + (if pz_ch t j = true then 1 else 0) := rfl
    have hmono : pz_nch t (j + 1) ≤ pz_nch t 8 := pz_cp_mono (by omega)
    cases hb : (pz_es t k w sp j).2 with
    | true =>
      rw [pz_es_t hb 1]
      exact ⟨a1, a2, by omega⟩
    | false =>
      rcases hes : pz_es t k w sp j with ⟨⟨k', w', sp', en'⟩, b⟩
      rw [hes] at hb a1 a2 a3
      have hb : b = false := hb
      subst hb
      rw [pz_es_s hes]
      have a1 : pz_med k' w' := a1
      have a2 : sp' ≤ 1001 := a2
      have a3 : k' ≤ k + pz_nch t j := a3
      by_cases hc : pz_ch t j = true
      · rw [if_pos hc] at hnc ⊢
        refine ⟨pz_med_sec a1 (fun i hi => ?_) (fun z => absurd z (by show ¬ (2 : Nat) = 3; omega)), by show sp' - 1 ≤ 1001; omega, by show k' + 1 ≤ _; omega⟩
        have hkd := hw.2.1 j (by omega)
        have hct := hw.ct10 (show j < 8 by omega)
        unfold pz_entry
        split
        · omega
        · split
          · omega
          · split
            · omega
            · split
              · omega
              · split
                · omega
                · split
                  · rename_i hx
                    exact pz_it_lt hw (by omega) (by omega) (by omega)
                  · omega
      · rw [if_neg hc] at hnc ⊢
        exact ⟨a1, a2, by show k' ≤ _; omega⟩
theorem inv_close {S : pz_S} (h : pz_inv S) : pz_inv (pz_close S).2 := by
  obtain ⟨n, k, w, sp, t⟩ := S
  have hiz := h.iz
  obtain ⟨h1, h2, h3, h4, h5, h6, h7⟩ := pz_inv_to h
  have hnum : pz_num w k ≤ k := pz_num_le (fun p hp h3 => (h5.2.2 p hp h3).2.2)
  unfold pz_close
  dsimp only
  split
  · exact h
  · split
    · exact h
    · rename_i hfull
      have hmed := pz_es_med (t := t) (sp := sp) h5 h6 (n := n) (by omega) h2 h4 8 (by omega)
      have hez := pz_es_kept (sp := sp) h6 h7 8 (by omega)
      have hok := pz_es_ok (t := t) (sp := sp) hiz h5.2.1 (n := n) (by omega) h2 8 (by omega)
      split
      · rename_i k' w' sp' en' hes
        rw [hes] at hmed
        obtain ⟨a1, a2, a3⟩ := hmed
        have a3 : k' ≤ k + pz_nch t 8 := a3
        obtain ⟨b1, b2⟩ := pz_back_ok (k := k') (w := w') a1
        exact pz_inv_of h1 h2 (by omega) a2 a1 b1 b2
      · rename_i k' w' sp' en' hes
        rw [hes] at hmed hez hok
        obtain ⟨a1, a2, a3⟩ := hmed
        have a1 : pz_med k' w' := a1
        have a2 : sp' ≤ 1001 := a2
        have a3 : k' ≤ k + pz_nch t 8 := a3
        have a4 : k ≤ k' := hok.2.2.2.1
        have hez : ∀ i, i < 8 → ez k' w' en' t i := fun i hi => hez rfl i hi (Or.inl hi)
        have hen : ∀ i, i < 8 → en' i ≤ k' := fun i hi => ((hez i hi).en (h6.ct10 hi)).1
        have hmed2 : ∀ b, pz_med (k' + 1) (pz_sec w' k' (pz_table k' (pz_num w k + 1) en') b) := fun b => by
          have hnm : ∀ i, i < 8 → pz_nm (pz_sec w' k' (pz_table k' (pz_num w k + 1) en') b) k' i = en' i := fun i hi => by
            unfold pz_nm
            rw [Nat.add_assoc, pz_sec_new (by omega) (by omega)]
            unfold pz_table
            rw [if_neg (by omega), if_neg (by omega), if_neg (by omega), if_pos (by omega), show 4 + i - 4 = i by omega]
          refine pz_med_sec a1 (fun i hi => ?_) (fun _ => ⟨fun i hi => by rw [hnm i hi]; exact hen i hi, ?_, by show pz_num w k + 1 ≤ k' + 1; omega⟩)
          · unfold pz_table
            split
            · omega
            · split
              · omega
              · split
                · omega
                · split
                  · rename_i hx
                    have := hen (i - 4) (by omega)
                    omega
                  · omega
          · have hzs : ∀ i, i < 8 → ez (k' + 1) (pz_sec w' k' (pz_table k' (pz_num w k + 1) en') b) en' t i := fun i hi => (hez i hi).sec (h6.ct10 hi)
            refine pz_wf_ext (h6.mono (show k ≤ k' + 1 by omega)) (fun i hi => ?_) (fun i hi => ?_) (fun i hi s hs => ?_) (fun i hi z => ⟨rfl, ?_⟩)
            · show (if pz_nm _ k' i = 0 then 0 else pz_sec w' k' _ b (16 * (pz_nm _ k' i - 1) + 4)) = pz_kd t i
              rw [hnm i hi]
              by_cases hk0 : pz_kd t i = 0
              · rw [if_pos ((hzs i hi).1 hk0), hk0]
              · obtain ⟨c1, c2, c3, c4, c5⟩ := (hzs i hi).2 hk0
                rw [if_neg (by omega)]
                exact c3
            · show (if pz_nm _ k' i = 0 then 0 else pz_sec w' k' _ b (16 * (pz_nm _ k' i - 1) + 5)) = pz_ct t i
              rw [hnm i hi]
              by_cases hk0 : pz_kd t i = 0
              · rw [if_pos ((hzs i hi).1 hk0), (h6.2.2.1 i hi hk0).1]
              · obtain ⟨c1, c2, c3, c4, c5⟩ := (hzs i hi).2 hk0
                rw [if_neg (by omega)]
                exact c4
            · show pz_sec w' k' _ b (16 * (pz_nm _ k' i - 1) + 6 + s) = pz_it t i s
              rw [hnm i hi]
              by_cases hk0 : pz_kd t i = 0
              · rw [(h6.2.2.1 i hi hk0).1] at hs; omega
              · exact ((hzs i hi).2 hk0).2.2.2.2 s hs
            · show pz_nm (pz_sec w' k' (pz_table k' (pz_num w k + 1) en') b) k' i = 0
              rw [hnm i hi]
              exact (hzs i hi).1 z
        split
        · obtain ⟨b1, b2⟩ := pz_back_ok (hmed2 true)
          exact pz_inv_of h1 h2 (by omega) (by omega) (hmed2 true) b1 b2
        · refine pz_inv_of h1 h2 (by omega) (by omega) (hmed2 false) (pz_wf_ext (h6.mono (show k ≤ k' + 1 by omega)) (fun i hi => rfl) (fun i hi => rfl) (fun i hi s hs => rfl) (fun i hi z => ⟨rfl, (hez i hi).1 z⟩)) (fun i hi hk0 _ => ?_)
          exact ((hez i hi).sec (f := pz_table k' (pz_num w k + 1) en') (b := false) (h6.ct10 hi)).2 hk0
/-- the start -/
theorem inv_start {n : Nat} (h1 : 16 ≤ n) (h2 : n ≤ 128) : pz_inv (n, 0, fun _ => 0, 0, pz_empty) :=
  pz_inv_of h1 h2 (Nat.zero_le _) (Nat.zero_le _) ⟨fun _ => by show (0 : Nat) < 65536; omega, fun _ _ => rfl, fun p hp => absurd hp (by omega)⟩ (pz_wf_empty 0) (pz_kept_empty 0 _)
