/- the class's public questions -/
theorem p_left {l : Launch} {G : aw_G} (hG : gz G) {h : aw_H} {S : pz_S} (hS : cz G S h) : aw_I l G 1 Y_S_left [.inl (some 0)] h (.inr (pz_left S)) := by
  obtain ⟨n, k, w, sp, t⟩ := S
  obtain ⟨rfl, ⟨⟨e0, -⟩, e3, -, hk, -, -⟩, -⟩ := hS
  refine aw_met hG.1 (by decide) (Nat.le_of_ble_eq_true rfl) (fun M hM B E => ?_)
  show aw_X M G 1 0 [some (.inl (some 0))] [] h
  have i0 := hG.is0
  have i1 := hG.is1
  have r0 : aw_rM 0 0 = some 1 := rfl
  refine ax_aload_n (q := 1) B d_S_left_0 rfl rfl rfl ?_
  refine ax_getP (q := 4) B fl_S_23 rfl d_S_left_1 (by assumption) (by assumption) rfl ?_
  refine ax_qV0 (q := 7) B cv_S_146 d_S_left_4 (by assumption) (Nat.le_of_ble_eq_true rfl) (by decide) (k_unwritten hG e0 e3 hk) rfl ?_
  refine ax_iret B E d_S_left_7 ?_
  exact ⟨rfl, rfl⟩
theorem p_changed {l : Launch} {G : aw_G} (hG : gz G) {h : aw_H} {S : pz_S} (hS : cz G S h) : aw_I l G 1 Y_S_changed [.inl (some 0)] h (.inr (pz_changed S)) := by
  refine aw_met hG.1 (by decide) (Nat.le_of_ble_eq_true rfl) (fun M hM B E => ?_)
  show aw_X M G 1 0 [some (.inl (some 0))] [] h
  have i0 := hG.is0
  have i4 := hG.t4.2.1
  have r1 : aw_rM 0 1 = some 4 := rfl
  refine ax_aload_n (q := 1) B d_S_changed_0 rfl rfl rfl ?_
  refine ax_getP (q := 4) B fl_S_30 rfl d_S_changed_1 (by assumption) (by assumption) rfl ?_
  refine ax_qV0 (q := 7) B cv_S_125 d_S_changed_4 (by assumption) (Nat.le_of_ble_eq_true rfl) (by decide) (k_countChanged hG.1 hG.t4 hS.2.2) rfl ?_
  refine ax_iret B E d_S_changed_7 ?_
  exact ⟨rfl, rfl⟩
theorem p_tables {l : Launch} {G : aw_G} (hG : gz G) {h : aw_H} {S : pz_S} (hS : cz G S h) (hI : pz_inv S) : aw_I l G 4 Y_S_tables [.inl (some 0)] h (.inr (pz_tables S)) := by
  obtain ⟨n, k, w, sp, t⟩ := S
  have hi := hI.iz
  obtain ⟨rfl, hm, -⟩ := hS
  have hm : mz G k sp w h := hm
  refine aw_met hG.1 (by decide) (Nat.le_of_ble_eq_true rfl) (fun M hM B E => ?_)
  show aw_X M G 3 0 [some (.inl (some 0)), none, none] [] h
  have i0 := hG.is0
  have i1 := hG.is1
  have r0 : aw_rM 0 0 = some 1 := rfl
  have n2 := hG.2.2.2
  have e3 := hm.2.1
  have hk := hm.2.2.2.1
  have loop : ∀ m j, j + m = k → aw_X M G 3 4 [some (.inl (some 0)), some (.inr (nI (pz_tabs w j))), some (.inr (nI j))] [] h := by
    intro m
    induction m with
    | zero =>
      intro j hj
      have hj : j = k := by omega
      subst hj
      refine ax_iload_n (q := 5) B d_S_tables_4 rfl rfl rfl ?_
      refine ax_aload_n (q := 6) B d_S_tables_5 rfl rfl rfl ?_
      refine ax_getP (q := 9) B fl_S_23 rfl d_S_tables_6 (by assumption) (by assumption) rfl ?_
      refine ax_getN (q := 12) B fl_S_84 rfl d_S_tables_9 (by assumption) (by first | assumption | rfl) rfl ?_
      refine ax_icmpN_ge (q := 32) (q2 := 15) B (by omega) (by omega) d_S_tables_12 rfl rfl (fun h12 => ?_) (fun h12 => ?_)
      · refine ax_iload_n (q := 33) B d_S_tables_32 rfl rfl rfl ?_
        refine ax_iret B E d_S_tables_33 ?_
        exact ⟨rfl, rfl⟩
      · omega
    | succ m ih =>
      intro j hj
      have h3 := ih (j + 1) (by omega)
      have ht : pz_tabs w (j + 1) = pz_tabs w j + (if pz_valid w j = true then 1 else 0) := rfl
      rw [ht] at h3
      refine ax_iload_n (q := 5) B d_S_tables_4 rfl rfl rfl ?_
      refine ax_aload_n (q := 6) B d_S_tables_5 rfl rfl rfl ?_
      refine ax_getP (q := 9) B fl_S_23 rfl d_S_tables_6 (by assumption) (by assumption) rfl ?_
      refine ax_getN (q := 12) B fl_S_84 rfl d_S_tables_9 (by assumption) (by first | assumption | rfl) rfl ?_
      refine ax_icmpN_ge (q := 32) (q2 := 15) B (by omega) (by omega) d_S_tables_12 rfl rfl (fun h12 => ?_) (fun h12 => ?_)
      · omega
      · refine ax_aload_n (q := 16) B d_S_tables_15 rfl rfl rfl ?_
        refine ax_iload_n (q := 17) B d_S_tables_16 rfl rfl rfl ?_
        refine ax_qV1 (q := 20) B cv_S_149 d_S_tables_17 (by assumption) (Nat.le_of_ble_eq_true rfl) (by decide) (k_isValid hG hm hi (by omega)) rfl ?_
        refine ax_ifZ_eq (q := 26) (q2 := 23) B d_S_tables_20 rfl rfl (fun h20 => ?_) (fun h20 => ?_)
        · refine ax_iincN (j := 1) (q := 29) B d_S_tables_26 rfl ii_1 (by decide) rfl ?_
          refine ax_goto (q := 4) B d_S_tables_29 rfl ?_
          rw [h20] at h3
          exact h3
        · refine ax_iincN (j := 1) (q := 26) B d_S_tables_23 rfl ii_1 (by decide) rfl ?_
          refine ax_iincN (j := 1) (q := 29) B d_S_tables_26 rfl ii_1 (by decide) rfl ?_
          refine ax_goto (q := 4) B d_S_tables_29 rfl ?_
          rw [h20] at h3
          exact h3
  refine ax_iconst (v := nI 0) (q := 1) B d_S_tables_0 ci_0 rfl ?_
  refine ax_istore_n (q := 2) B d_S_tables_1 rfl (by decide) rfl ?_
  refine ax_iconst (v := nI 0) (q := 3) B d_S_tables_2 ci_0 rfl ?_
  refine ax_istore_n (q := 4) B d_S_tables_3 rfl (by decide) rfl ?_
  exact loop k 0 (by omega)
theorem p_word {l : Launch} {G : aw_G} (hG : gz G) {h : aw_H} {S : pz_S} (hS : cz G S h) (x i : Int32) : aw_I l G 2 Y_S_word [.inl (some 0), .inr x, .inr i] h (.inr (pz_word S x i)) := by
  obtain ⟨n, k, w, sp, t⟩ := S
  obtain ⟨hn, hm, -⟩ := hS
  have hn : n = aw_n G := hn
  subst hn
  have hm : mz G k sp w h := hm
  refine aw_met hG.1 (by decide) (Nat.le_of_ble_eq_true rfl) (fun M hM B E => ?_)
  show aw_X M G 3 0 [some (.inl (some 0)), some (.inr x), some (.inr i)] [] h
  have i0 := hG.is0
  have i1 := hG.is1
  have r0 : aw_rM 0 0 = some 1 := rfl
  have n2 := hG.2.2.2
  unfold pz_word at E
  have E : aw_E M G (some .int) (fun r h' => r = some (.inr (if (pz_small x (aw_n G) && pz_small i 16) = true then nI (w (16 * x.toNatClampNeg + i.toNatClampNeg)) else -1)) ∧ h' = h) := E
  refine ax_aload_n (q := 1) B d_S_word_0 rfl rfl rfl ?_
  refine ax_getP (q := 4) B fl_S_23 rfl d_S_word_1 (by assumption) (by assumption) rfl ?_
  refine ax_iload_n (q := 5) B d_S_word_4 rfl rfl rfl ?_
  refine ax_iload_n (q := 6) B d_S_word_5 rfl rfl rfl ?_
  refine ax_qV2 (q := 9) B cv_S_169 d_S_word_6 (by assumption) (Nat.le_of_ble_eq_true rfl) (by decide) (k_hasWord hG hm.1.1 _ _) rfl ?_
  refine ax_ifZ_eq (q := 24) (q2 := 12) B d_S_word_9 rfl rfl (fun h9 => ?_) (fun h9 => ?_)
  · rw [if_neg (by rw [h9]; decide)] at E
    refine ax_iconst (v := (-1)) (q := 25) B d_S_word_24 ci_m1 rfl ?_
    refine ax_iret B E d_S_word_25 ?_
    exact ⟨rfl, rfl⟩
  · rw [if_pos h9] at E
    rw [Bool.and_eq_true] at h9
    obtain ⟨p, hp, rfl⟩ := pz_small_e (by omega) h9.1
    obtain ⟨j, hj, rfl⟩ := pz_small_e (by omega) h9.2
    rw [nI_clamp (by omega), nI_clamp (by omega)] at E
    refine ax_aload_n (q := 13) B d_S_word_12 rfl rfl rfl ?_
    refine ax_getP (q := 16) B fl_S_23 rfl d_S_word_13 (by assumption) (by assumption) rfl ?_
    refine ax_iload_n (q := 17) B d_S_word_16 rfl rfl rfl ?_
    refine ax_iload_n (q := 18) B d_S_word_17 rfl rfl rfl ?_
    refine ax_qV2 (q := 21) B cv_S_166 d_S_word_18 (by assumption) (Nat.le_of_ble_eq_true rfl) (by decide) (k_word hG hm.1 hp hj) rfl ?_
    refine ax_goto (q := 25) B d_S_word_21 rfl ?_
    exact ax_iret B E d_S_word_25 ⟨rfl, rfl⟩
