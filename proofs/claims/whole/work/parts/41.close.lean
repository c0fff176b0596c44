/-- node i's entry lies at en - 1 and says what the node is -/
def ez (k : Nat) (w en : Nat → Nat) (t : pz_T) (i : Nat) : Prop := (pz_kd t i = 0 → en i = 0) ∧ (pz_kd t i ≠ 0 → 1 ≤ en i ∧ en i ≤ k ∧ w (16 * (en i - 1) + 4) = pz_kd t i ∧ w (16 * (en i - 1) + 5) = pz_ct t i ∧ ∀ s, s < pz_ct t i → w (16 * (en i - 1) + 6 + s) = pz_it t i s)
theorem ez.sec {k i : Nat} {w f en : Nat → Nat} {t : pz_T} {b : Bool} (h : ez k w en t i) (hc : pz_ct t i ≤ 10) : ez (k + 1) (pz_sec w k f b) en t i := by
  refine ⟨h.1, fun hk => ?_⟩
  obtain ⟨h1, h2, h3, h4, h5⟩ := h.2 hk
  refine ⟨h1, by omega, ?_, ?_, fun s hs => ?_⟩
  · rw [pz_sec_old (by omega)]; exact h3
  · rw [pz_sec_old (by omega)]; exact h4
  · rw [pz_sec_old (by omega)]; exact h5 s hs
theorem pz_es_kept {t : pz_T} {k sp : Nat} {w : Nat → Nat} (hwf : pz_wf k t) (hkp : pz_kept k w t) : ∀ j, j ≤ 8 → (pz_es t k w sp j).2 = false → ∀ i, i < 8 → (i < j ∨ pz_ch t i = false) → ez (pz_es t k w sp j).1.1 (pz_es t k w sp j).1.2.1 (pz_es t k w sp j).1.2.2.2 t i := by
  intro j
  induction j with
  | zero =>
    intro _ _ i hi hor
    have hch : pz_ch t i = false := by
      rcases hor with h | h
      · omega
      · exact h
    exact ⟨fun h0 => (hwf.2.2.1 i hi h0).2.2, fun h0 => hkp i hi h0 hch⟩
  | succ j ih =>
    intro hj hb1 i hi hor
    cases hb : (pz_es t k w sp j).2 with
    | true =>
      rw [pz_es_t hb 1, hb] at hb1
      cases hb1
    | false =>
      have ih := ih (by omega) hb
      rcases hes : pz_es t k w sp j with ⟨⟨k', w', sp', en'⟩, b⟩
      rw [hes] at hb ih
      have hb : b = false := hb
      subst hb
      rw [pz_es_s hes] at hb1 ⊢
      have hc10 := hwf.ct10 hi
      by_cases hc : pz_ch t j = true
      · rw [if_pos hc] at hb1 ⊢
        show ez (k' + 1) (pz_sec w' k' (pz_entry k' j t) (sp' == 1)) (pz_up en' j (k' + 1)) t i
        by_cases hij : i = j
        · subst hij
          have hk0 : pz_kd t i ≠ 0 := fun z => by
            have := (hwf.2.2.1 i hi z).2.1
            rw [this] at hc
            cases hc
          have e1 : pz_up en' i (k' + 1) i = k' + 1 := pz_up_s
          refine ⟨fun z => absurd z hk0, fun _ => ?_⟩
          rw [e1]
          refine ⟨by omega, by omega, ?_, ?_, fun s hs => ?_⟩
          · rw [Nat.add_sub_cancel, pz_sec_new (by omega) (by omega)]; rfl
          · rw [Nat.add_sub_cancel, pz_sec_new (by omega) (by omega)]; rfl
          · rw [Nat.add_sub_cancel, Nat.add_assoc, pz_sec_new (by omega) (by omega)]
            unfold pz_entry
            rw [if_neg (by omega), if_neg (by omega), if_neg (by omega), if_neg (by omega), if_neg (by omega), if_pos (by omega), show 6 + s - 6 = s by omega]
        · have h1 : ez k' w' en' t i := ih i hi (by
            rcases hor with h | h
            · exact Or.inl (by omega)
            · exact Or.inr h)
          have e1 : pz_up en' j (k' + 1) i = en' i := pz_up_n hij
          have h2 := h1.sec (f := pz_entry k' j t) (b := (sp' == 1)) hc10
          unfold ez at h2 ⊢
          rw [e1]
          exact h2
      · rw [if_neg hc] at hb1 ⊢
        refine ih i hi ?_
        rcases hor with h | h
        · by_cases hij : i = j
          · subst hij
            refine Or.inr ?_
            cases hz : pz_ch t i with
            | true => exact absurd hz hc
            | false => rfl
          · exact Or.inl (by omega)
        · exact Or.inr h
theorem ez.en {k i : Nat} {w en : Nat → Nat} {t : pz_T} (h : ez k w en t i) (hc : pz_ct t i ≤ 10) : en i ≤ k ∧ (en i = 0 ∨ w (16 * (en i - 1) + 5) ≤ 10) := by
  by_cases h0 : pz_kd t i = 0
  · rw [h.1 h0]; exact ⟨Nat.zero_le _, Or.inl rfl⟩
  · obtain ⟨h1, h2, h3, h4, h5⟩ := h.2 h0
    exact ⟨h2, Or.inr (by rw [h4]; exact hc)⟩
theorem pz_num_le {k : Nat} {w : Nat → Nat} (h : ∀ p, p < k → w (16 * p) = 3 → w (16 * p + 3) ≤ p + 1) : pz_num w k ≤ k := by
  unfold pz_num
  cases hx : pz_newest w k with
  | none => exact Nat.zero_le _
  | some p =>
    obtain ⟨hp, hv⟩ := pz_newest_lt k hx
    have := h p hp (pz_valid_3 hv)
    show w (16 * p + 3) ≤ k
    omega
theorem pz_num_more {w w' : Nat → Nat} {k k' : Nat} (hi : iz k w) (hk : k ≤ k') (ho : ∀ x, x < 16 * k → w' x = w x) (h2 : ∀ p, k ≤ p → p < k' → w' (16 * p) = 2) : pz_num w' k' = pz_num w k := by
  unfold pz_num
  rw [pz_newest_more hi hk ho h2]
  cases hx : pz_newest w k with
  | none => rfl
  | some p =>
    obtain ⟨hp, -⟩ := pz_newest_lt k hx
    exact ho _ (by omega)
theorem p_close {l : Launch} {G : aw_G} (hG : gz G) {h : aw_H} {S : pz_S} (hS : cz G S h) (hI : pz_inv S) : aw_F l G 6 Y_S_close [.inl (some 0)] h (fun v h' => v = .inr (pz_close S).1 ∧ cz G (pz_close S).2 h' ∧ ∀ q, 40 ≤ q → h' q = h q) := by
  obtain ⟨n, k, w, sp, t⟩ := S
  have hi := hI.iz
  obtain ⟨-, -, -, -, -, h0, hwf, hkp, h9⟩ := hI
  have hS' := hS
  obtain ⟨hn, hm, hT⟩ := hS
  have hn : n = aw_n G := hn
  have hm : mz G k sp w h := hm
  have hT : hz_T 4 t h := hT
  have hwf : pz_wf k t := hwf
  have h0 : ∀ x, 16 * k ≤ x → w x = 0 := h0
  have n2 := hG.2.2.2
  have hkn := hm.2.2.2.1
  have hnum : pz_num w k ≤ k := pz_num_le (fun p hp h3 => (h9 p hp h3).2.2)
  refine aw_met hG.1 (by decide) (Nat.le_of_ble_eq_true rfl) (fun M hM B E => ?_)
  show aw_X M G 2 0 [some (.inl (some 0)), none] [] h
  have i0 := hG.is0
  have r1 : aw_rM 0 1 = some 4 := rfl
  have i4 := hG.t4.2.1
  have hcp := pz_cp_le (pz_ch t) 8
  have hcp : pz_nch t 8 ≤ 8 := hcp
  unfold pz_close at E
  refine ax_aload_n (q := 1) B d_S_close_0 rfl rfl rfl ?_
  refine ax_getP (q := 4) B fl_S_30 rfl d_S_close_1 (by assumption) (by assumption) rfl ?_
  refine ax_qV0 (q := 7) B cv_S_125 d_S_close_4 (by assumption) (Nat.le_of_ble_eq_true rfl) (by decide) (k_countChanged hG.1 hG.t4 hT) rfl ?_
  by_cases hc0 : pz_nch t 8 = 0
  · simp only [hc0, if_true] at E
    rw [hc0]
    refine ax_istore_n (q := 8) B d_S_close_7 rfl (by decide) rfl ?_
    refine ax_iload_n (q := 9) B d_S_close_8 rfl rfl rfl ?_
    refine ax_ifN_ne (q := 14) (q2 := 12) B (by omega) d_S_close_9 rfl rfl (fun h9 => ?_) (fun h9 => ?_)
    · omega
    · refine ax_iconst (v := nI 0) (q := 13) B d_S_close_12 ci_0 rfl ?_
      refine ax_iret B E d_S_close_13 ?_
      exact ⟨_, rfl, rfl, hS', fun q _ => rfl⟩
  simp only [hc0, if_false] at E
  have tail3 : ∀ (k2 sp2 : Nat) (w2 : Nat → Nat) (f : aw_H), mz G k2 sp2 w2 f → iz k2 w2 → (∀ q, 22 ≤ q → f q = h q) → aw_E M G (some .int) (fun r h' => ∃ v, r = some v ∧ (v = .inr (-5) ∧ cz G (n, k2, w2, sp2, pz_back w2 k2) h' ∧ ∀ q, 40 ≤ q → h' q = h q)) → ∀ u, aw_X M G 2 46 [some (.inl (some 0)), u] [] f := by
    intro k2 sp2 w2 f hmf hif hff E u
    refine ax_aload_n (q := 47) B d_S_close_46 rfl rfl rfl ?_
    refine ax_pV0 (q := 50) B cv_S_97 d_S_close_47 (by assumption) (Nat.le_of_ble_eq_true rfl) (by decide) (k_readBack hG hmf hif) rfl (fun h4 hh4 => ?_)
    refine ax_bipush (v := (-5)) (q := 52) B d_S_close_50 cb_m5 rfl ?_
    refine ax_iret B E d_S_close_52 ?_
    exact ⟨_, rfl, rfl, ⟨hn, hmf.kept (hh4.2 1 (by omega)) (hh4.2 2 (by omega)) (hh4.2 3 (by omega)), hh4.1⟩, fun q hq => by rw [hh4.2 q (by omega), hff q (by omega)]⟩
  have tail : ¬ aw_n G < k + 0 + pz_nch t 8 + 1 → aw_X M G 2 26 [some (.inl (some 0)), some (.inr (nI (pz_nch t 8)))] [] h := by
    intro hfull
    rw [if_neg (by rw [hn]; exact hfull)] at E
    have hC := k_writeEntries (l := M.2.1) hG hm hT (by omega) h0
    have hok := pz_es_ok (t := t) (sp := sp) hi h0 (n := aw_n G) (by omega) n2 8 (by omega)
    have hez := pz_es_kept (sp := sp) hwf hkp 8 (by omega)
    have hek := pz_es_k (t := t) (k := k) (sp := sp) (w := w) 8
    rcases hes : pz_es t k w sp 8 with ⟨⟨k', w', sp', en'⟩, b⟩
    rw [hes] at hC hok hez hek
    simp only [hes] at E
    obtain ⟨a1, a2, a3, a4, a5, a7⟩ := hok
    have a1 : iz k' w' := a1
    have a2 : ∀ x, 16 * k' ≤ x → w' x = 0 := a2
    have a3 : k' ≤ k + pz_nch t 8 := a3
    have a4 : k ≤ k' := a4
    refine ax_aload_n (q := 27) B d_S_close_26 rfl rfl rfl ?_
    refine ax_gV0 (q := 30) B cv_S_128 d_S_close_27 (by assumption) (Nat.le_of_ble_eq_true rfl) (by decide) hC rfl (fun v h1 hv => ?_)
    obtain ⟨rfl, hm1, hT1, hf1⟩ := hv
    have hm1 : mz G k' sp' w' h1 := hm1
    cases b with
    | true =>
      refine ax_ifZ_eq (q := 46) (q2 := 33) B d_S_close_30 rfl rfl (fun _ => ?_) (fun z => by cases z)
      exact tail3 k' sp' w' h1 hm1 a1 hf1 E _
    | false =>
      have hT1 : hz_T 4 (pz_tj t 8 en') h1 := hT1 rfl
      have hek : k' = k + pz_nch t 8 := hek rfl
      have hez : ∀ i, i < 8 → ez k' w' en' t i := fun i hi8 => hez rfl i hi8 (Or.inl hi8)
      have hen : ∀ i, i < 8 → en' i ≤ k' ∧ (en' i = 0 ∨ w' (16 * (en' i - 1) + 5) ≤ 10) := fun i hi8 => (hez i hi8).en (hwf.ct10 hi8)
      have hnm : pz_num w' k' = pz_num w k := pz_num_more hi a4 a5 a7
      refine ax_ifZ_eq (q := 46) (q2 := 33) B d_S_close_30 rfl rfl (fun z => by cases z) (fun _ => ?_)
      refine ax_aload_n (q := 34) B d_S_close_33 rfl rfl rfl ?_
      refine ax_aload_n (q := 35) B d_S_close_34 rfl rfl rfl ?_
      refine ax_qV0 (q := 38) B cv_S_131 d_S_close_35 (by assumption) (Nat.le_of_ble_eq_true rfl) (by decide) (k_newestNumber hG hm1 a1) rfl ?_
      refine ax_top (congrArg nI hnm) ?_
      refine ax_iconst (v := nI 1) (q := 39) B d_S_close_38 ci_1 rfl ?_
      first | refine ax_iaddN (q := 40) B d_S_close_39 rfl ?_ | refine ax_iadd (q := 40) B d_S_close_39 rfl ?_
      refine ax_gV1 (q := 43) B cv_S_134 d_S_close_40 (by assumption) (Nat.le_of_ble_eq_true rfl) (by decide) (k_writeTable hG hm1 hT1 (by omega) a2 (fun i hi8 => by show en' i < 65536; have := (hen i hi8).1; omega) (by omega)) rfl (fun v h2 hv => ?_)
      obtain ⟨rfl, hm2, hf2⟩ := hv
      have hm2 : mz G (k' + 1) (sp' - 1) (pz_sec w' k' (pz_table k' (pz_num w k + 1) en') (sp' == 1)) h2 := hm2
      have hi2 : iz (k' + 1) (pz_sec w' k' (pz_table k' (pz_num w k + 1) en') (sp' == 1)) := iz_tab a1 hen
      have hf3 : ∀ q, 22 ≤ q → h2 q = h q := fun q hq => by rw [hf2 q (by omega), hf1 q hq]
      by_cases hsp : sp' = 1
      · subst hsp
        simp only [if_true] at E
        refine ax_ifZ_ne (q := 53) (q2 := 46) B d_S_close_43 rfl rfl (fun z => absurd (show (decide ((1 : Nat) ≠ 1)) = true from z) (by decide)) (fun _ => ?_)
        exact tail3 (k' + 1) 0 _ h2 hm2 hi2 hf3 E _
      · simp only [hsp, if_false] at E
        rw [pz_beq_ne hsp] at hm2
        refine ax_ifZ_ne (q := 53) (q2 := 46) B d_S_close_43 rfl rfl (fun _ => ?_) (fun z => by rw [decide_eq_true hsp] at z; cases z)
        have hT2 : hz_T 4 (pz_kd t, pz_ct t, fun _ => false, en', pz_it t) h2 := fun i hi8 => ((hT1 i hi8).ext (t' := (pz_kd t, pz_ct t, fun _ => false, en', pz_it t)) rfl rfl (by show false = (if i < 8 then false else pz_ch t i); rw [if_pos hi8]) rfl (fun s hs => rfl)).kept (hf2 _ (by omega)) (hf2 _ (by omega))
        refine ax_iload_n (q := 54) B d_S_close_53 rfl rfl rfl ?_
        refine ax_iconst (v := nI 1) (q := 55) B d_S_close_54 ci_1 rfl ?_
        first | refine ax_iaddN (q := 56) B d_S_close_55 rfl ?_ | refine ax_iadd (q := 56) B d_S_close_55 rfl ?_
        refine ax_iret B E d_S_close_56 ?_
        exact ⟨_, rfl, rfl, ⟨hn, hm2, hT2⟩, fun q hq => hf3 q (by omega)⟩
  refine ax_istore_n (q := 8) B d_S_close_7 rfl (by decide) rfl ?_
  refine ax_iload_n (q := 9) B d_S_close_8 rfl rfl rfl ?_
  refine ax_ifN_ne (q := 14) (q2 := 12) B (by omega) d_S_close_9 rfl rfl (fun h9 => ?_) (fun h9 => ?_)
  · refine ax_aload_n (q := 15) B d_S_close_14 rfl rfl rfl ?_
    refine ax_iconst (v := nI 0) (q := 16) B d_S_close_15 ci_0 rfl ?_
    refine ax_iconst (v := nI 0) (q := 17) B d_S_close_16 ci_0 rfl ?_
    refine ax_qV2 (q := 20) B cv_S_61 d_S_close_17 (by assumption) (Nat.le_of_ble_eq_true rfl) (by decide) (k_isTooFull hG hm hT (c := pz_nch t 8) (by omega) (by omega) (by rw [nI_add]; rfl)) rfl ?_
    refine ax_ifZ_eq (q := 26) (q2 := 23) B d_S_close_20 rfl rfl (fun h20 => ?_) (fun h20 => ?_)
    · exact tail (of_decide_eq_false h20)
    · rw [if_pos (by rw [hn]; exact of_decide_eq_true h20)] at E
      refine ax_bipush (v := (-4)) (q := 25) B d_S_close_23 cb_m4 rfl ?_
      refine ax_iret B E d_S_close_25 ?_
      exact ⟨_, rfl, rfl, hS', fun q _ => rfl⟩
  · omega
