/-- the reference's cells hold state S -/
def qz (G : aw_G) (S : pz_S) (h : aw_H) : Prop := S.1 = aw_n G ∧ rw_ S.2.2.1 h ∧ rm_ G S.2.1 S.2.2.2.1 h ∧ rt S.2.2.2.2 h
theorem qz.kept {G : aw_G} {S : pz_S} {h h' : aw_H} (hS : qz G S h) (e : ∀ q, 40 ≤ q → q < 47 → h' q = h q) : qz G S h' := ⟨hS.1, hS.2.1.kept (e 41 (by omega) (by omega)), hS.2.2.1.kept (e 40 (by omega) (by omega)), hS.2.2.2.kept (fun q q1 q2 => e q (by omega) q2)⟩
theorem q_left {l : Launch} {G : aw_G} (hG : gr G) {h : aw_H} {S : pz_S} (hS : qz G S h) : aw_I l G 0 Y_R_left [.inl (some 40)] h (.inr (pz_left S)) := by
  obtain ⟨n, k, w, sp, t⟩ := S
  obtain ⟨hn, hw, ⟨e1, e2, hk, -⟩, hT⟩ := hS
  have hn : n = aw_n G := hn
  subst hn
  have hk : k ≤ aw_n G := hk
  refine aw_met hG.1.1 (by decide) (Nat.le_of_ble_eq_true rfl) (fun M hM B E => ?_)
  show aw_X M G 1 0 [some (.inl (some 40))] [] h
  have i40 := hG.i40
  refine ax_aload_n (q := 1) B d_R_left_0 rfl rfl rfl ?_
  refine ax_getN (q := 4) B fl_R_44 rfl d_R_left_1 (by assumption) (by first | assumption | rfl) rfl ?_
  refine ax_aload_n (q := 5) B d_R_left_4 rfl rfl rfl ?_
  refine ax_getN (q := 8) B fl_R_66 rfl d_R_left_5 (by assumption) (by first | assumption | rfl) rfl ?_
  refine ax_isubN (q := 9) B hk d_R_left_8 rfl ?_
  refine ax_iret B E d_R_left_9 ?_
  exact ⟨rfl, rfl⟩
theorem q_changed {l : Launch} {G : aw_G} (hG : gr G) {h : aw_H} {S : pz_S} (hS : qz G S h) : aw_I l G 1 Y_R_changed [.inl (some 40)] h (.inr (pz_changed S)) := by
  refine aw_met hG.1.1 (by decide) (Nat.le_of_ble_eq_true rfl) (fun M hM B E => ?_)
  show aw_X M G 1 0 [some (.inl (some 40))] [] h
  have i40 := hG.i40
  have hC := r_changedWith (l := M.2.1) hG hS.2.2.2 (a := 8) (b := 8) (g := 8) (by omega) (by omega) (by omega)
  rw [pz_cw_none] at hC
  refine ax_aload_n (q := 1) B d_R_changed_0 rfl rfl rfl ?_
  refine ax_iconst (v := (-1)) (q := 2) B d_R_changed_1 ci_m1 rfl ?_
  refine ax_iconst (v := (-1)) (q := 3) B d_R_changed_2 ci_m1 rfl ?_
  refine ax_iconst (v := (-1)) (q := 4) B d_R_changed_3 ci_m1 rfl ?_
  refine ax_qV3 (q := 7) B cv_R_103 d_R_changed_4 (by assumption) (Nat.le_of_ble_eq_true rfl) (by decide) hC rfl ?_
  refine ax_iret B E d_R_changed_7 ?_
  exact ⟨rfl, rfl⟩
theorem q_tables {l : Launch} {G : aw_G} (hG : gr G) {h : aw_H} {S : pz_S} (hS : qz G S h) (hI : pz_inv S) : aw_I l G 4 Y_R_tables [.inl (some 40)] h (.inr (pz_tables S)) := by
  obtain ⟨n, k, w, sp, t⟩ := S
  have hi := hI.iz
  obtain ⟨-, hw, ⟨-, e2, hk, -⟩, -⟩ := hS
  have hk : k ≤ aw_n G := hk
  have hw : rw_ w h := hw
  have e2 : h 40 2 = nI k := e2
  refine aw_met hG.1.1 (by decide) (Nat.le_of_ble_eq_true rfl) (fun M hM B E => ?_)
  show aw_X M G 3 0 [some (.inl (some 40)), none, none] [] h
  have i40 := hG.i40
  have n2 := hG.1.2.2.2
  have loop : ∀ m j, j + m = k → aw_X M G 3 4 [some (.inl (some 40)), some (.inr (nI (pz_tabs w j))), some (.inr (nI j))] [] h := by
    intro m
    induction m with
    | zero =>
      intro j hj
      have hj : j = k := by omega
      subst hj
      refine ax_iload_n (q := 5) B d_R_tables_4 rfl rfl rfl ?_
      refine ax_aload_n (q := 6) B d_R_tables_5 rfl rfl rfl ?_
      refine ax_getN (q := 9) B fl_R_66 rfl d_R_tables_6 (by assumption) (by first | assumption | rfl) rfl ?_
      refine ax_icmpN_ge (q := 34) (q2 := 12) B (by omega) (by omega) d_R_tables_9 rfl rfl (fun h9 => ?_) (fun h9 => ?_)
      · refine ax_iload_n (q := 35) B d_R_tables_34 rfl rfl rfl ?_
        refine ax_iret B E d_R_tables_35 ?_
        exact ⟨rfl, rfl⟩
      · omega
    | succ m ih =>
      intro j hj
      have h3 := ih (j + 1) (by omega)
      have ht : pz_tabs w (j + 1) = pz_tabs w j + (if pz_valid w j = true then 1 else 0) := rfl
      rw [ht] at h3
      refine ax_iload_n (q := 5) B d_R_tables_4 rfl rfl rfl ?_
      refine ax_aload_n (q := 6) B d_R_tables_5 rfl rfl rfl ?_
      refine ax_getN (q := 9) B fl_R_66 rfl d_R_tables_6 (by assumption) (by first | assumption | rfl) rfl ?_
      refine ax_icmpN_ge (q := 34) (q2 := 12) B (by omega) (by omega) d_R_tables_9 rfl rfl (fun h9 => ?_) (fun h9 => ?_)
      · omega
      · refine ax_aload_n (q := 13) B d_R_tables_12 rfl rfl rfl ?_
        refine ax_iload_n (q := 14) B d_R_tables_13 rfl rfl rfl ?_
        refine ax_qV1 (q := 17) B cv_R_69 d_R_tables_14 (by assumption) (Nat.le_of_ble_eq_true rfl) (by decide) (r_isValid hG hw (by omega) hi (by omega)) rfl ?_
        refine ax_ifZ_eq (q := 26) (q2 := 20) B d_R_tables_17 rfl rfl (fun h17 => ?_) (fun h17 => ?_)
        · refine ax_iload_n (q := 27) B d_R_tables_26 rfl rfl rfl ?_
          refine ax_istore_n (q := 28) B d_R_tables_27 rfl (by decide) rfl ?_
          refine ax_iincN (j := 1) (q := 31) B d_R_tables_28 rfl ii_1 (by decide) rfl ?_
          refine ax_goto (q := 4) B d_R_tables_31 rfl ?_
          rw [h17] at h3
          exact h3
        · refine ax_iload_n (q := 21) B d_R_tables_20 rfl rfl rfl ?_
          refine ax_iconst (v := nI 1) (q := 22) B d_R_tables_21 ci_1 rfl ?_
          first | refine ax_iaddN (q := 23) B d_R_tables_22 rfl ?_ | refine ax_iadd (q := 23) B d_R_tables_22 rfl ?_
          refine ax_goto (q := 27) B d_R_tables_23 rfl ?_
          refine ax_istore_n (q := 28) B d_R_tables_27 rfl (by decide) rfl ?_
          refine ax_iincN (j := 1) (q := 31) B d_R_tables_28 rfl ii_1 (by decide) rfl ?_
          refine ax_goto (q := 4) B d_R_tables_31 rfl ?_
          rw [h17] at h3
          exact h3
  refine ax_iconst (v := nI 0) (q := 1) B d_R_tables_0 ci_0 rfl ?_
  refine ax_istore_n (q := 2) B d_R_tables_1 rfl (by decide) rfl ?_
  refine ax_iconst (v := nI 0) (q := 3) B d_R_tables_2 ci_0 rfl ?_
  refine ax_istore_n (q := 4) B d_R_tables_3 rfl (by decide) rfl ?_
  exact loop k 0 (by omega)
theorem q_word {l : Launch} {G : aw_G} (hG : gr G) {h : aw_H} {S : pz_S} (hS : qz G S h) (x i : Int32) : aw_I l G 0 Y_R_word [.inl (some 40), .inr x, .inr i] h (.inr (pz_word S x i)) := by
  obtain ⟨n, k, w, sp, t⟩ := S
  obtain ⟨hn, hw, ⟨e1, -⟩, -⟩ := hS
  have hn : n = aw_n G := hn
  subst hn
  have hw : rw_ w h := hw
  refine aw_met hG.1.1 (by decide) (Nat.le_of_ble_eq_true rfl) (fun M hM B E => ?_)
  show aw_X M G 3 0 [some (.inl (some 40)), some (.inr x), some (.inr i)] [] h
  have i40 := hG.i40
  have a41 := hG.a41
  have r0 : aw_rM 40 0 = some 41 := rfl
  have n2 := hG.1.2.2.2
  have E : aw_E M G (some .int) (fun r h' => r = some (.inr (if (pz_small x (aw_n G) && pz_small i 16) = true then nI (w (16 * x.toNatClampNeg + i.toNatClampNeg)) else -1)) ∧ h' = h) := E
  cases hc : (pz_small x (aw_n G) && pz_small i 16) with
  | true =>
    rw [if_pos hc] at E
    rw [Bool.and_eq_true] at hc
    obtain ⟨p, hp, rfl⟩ := pz_small_e (by omega) hc.1
    obtain ⟨j, hj, rfl⟩ := pz_small_e (by omega) hc.2
    rw [nI_clamp (by omega), nI_clamp (by omega)] at E
    have ew := (hw (16 * p + j) (by omega)).1
    refine ax_iload_n (q := 1) B d_R_word_0 rfl rfl rfl ?_
    refine ax_ifN_lt (q := 22) (q2 := 4) B (by omega) d_R_word_1 rfl rfl ?_
    refine ax_iload_n (q := 5) B d_R_word_4 rfl rfl rfl ?_
    refine ax_aload_n (q := 6) B d_R_word_5 rfl rfl rfl ?_
    refine ax_getN (q := 9) B fl_R_44 rfl d_R_word_6 (by assumption) (by first | assumption | rfl) rfl ?_
    refine ax_icmpN_ge (q := 22) (q2 := 12) B (by omega) (by omega) d_R_word_9 rfl rfl (fun h9 => ?_) (fun h9 => ?_)
    · omega
    · refine ax_iload_n (q := 13) B d_R_word_12 rfl rfl rfl ?_
      refine ax_ifN_lt (q := 22) (q2 := 16) B (by omega) d_R_word_13 rfl rfl ?_
      refine ax_iload_n (q := 17) B d_R_word_16 rfl rfl rfl ?_
      refine ax_bipush (v := nI 15) (q := 19) B d_R_word_17 cb_15 rfl ?_
      refine ax_icmpN_le (q := 26) (q2 := 22) B (by omega) (by omega) d_R_word_19 rfl rfl (fun h19 => ?_) (fun h19 => ?_)
      · refine ax_aload_n (q := 27) B d_R_word_26 rfl rfl rfl ?_
        refine ax_getP (q := 30) B fl_R_7 rfl d_R_word_27 (by assumption) (by assumption) rfl ?_
        refine ax_bipush (v := nI 16) (q := 32) B d_R_word_30 cb_16 rfl ?_
        refine ax_iload_n (q := 33) B d_R_word_32 rfl rfl rfl ?_
        first | refine ax_imulN (q := 34) B d_R_word_33 rfl ?_ | refine ax_imul (q := 34) B d_R_word_33 rfl ?_
        refine ax_iload_n (q := 35) B d_R_word_34 rfl rfl rfl ?_
        first | refine ax_iaddN (q := 36) B d_R_word_35 rfl ?_ | refine ax_iadd (q := 36) B d_R_word_35 rfl ?_
        refine ax_ialdN (q := 37) B d_R_word_36 (by assumption) rfl (by omega) (by omega) (by first | assumption | rfl) rfl ?_
        refine ax_iret B E d_R_word_37 ?_
        exact ⟨rfl, rfl⟩
      · omega
  | false =>
    rw [if_neg (by rw [hc]; decide)] at E
    refine ax_iload_n (q := 1) B d_R_word_0 rfl rfl rfl ?_
    refine ax_if_lt (q := 22) (q2 := 4) B d_R_word_1 rfl rfl (fun h1 => ?_) (fun h1 => ?_)
    · refine ax_iconst (v := (-1)) (q := 23) B d_R_word_22 ci_m1 rfl ?_
      refine ax_goto (q := 37) B d_R_word_23 rfl ?_
      refine ax_iret B E d_R_word_37 ?_
      exact ⟨rfl, rfl⟩
    · refine ax_iload_n (q := 5) B d_R_word_4 rfl rfl rfl ?_
      refine ax_aload_n (q := 6) B d_R_word_5 rfl rfl rfl ?_
      refine ax_getN (q := 9) B fl_R_44 rfl d_R_word_6 (by assumption) (by first | assumption | rfl) rfl ?_
      refine ax_icmp_ge (q := 22) (q2 := 12) B d_R_word_9 rfl rfl (fun h9 => ?_) (fun h9 => ?_)
      · refine ax_iconst (v := (-1)) (q := 23) B d_R_word_22 ci_m1 rfl ?_
        refine ax_goto (q := 37) B d_R_word_23 rfl ?_
        refine ax_iret B E d_R_word_37 ?_
        exact ⟨rfl, rfl⟩
      · refine ax_iload_n (q := 13) B d_R_word_12 rfl rfl rfl ?_
        refine ax_if_lt (q := 22) (q2 := 16) B d_R_word_13 rfl rfl (fun h13 => ?_) (fun h13 => ?_)
        · refine ax_iconst (v := (-1)) (q := 23) B d_R_word_22 ci_m1 rfl ?_
          refine ax_goto (q := 37) B d_R_word_23 rfl ?_
          refine ax_iret B E d_R_word_37 ?_
          exact ⟨rfl, rfl⟩
        · refine ax_iload_n (q := 17) B d_R_word_16 rfl rfl rfl ?_
          refine ax_bipush (v := nI 15) (q := 19) B d_R_word_17 cb_15 rfl ?_
          refine ax_icmp_le (q := 26) (q2 := 22) B d_R_word_19 rfl rfl (fun h19 => ?_) (fun h19 => ?_)
          · rw [pz_small_t h1 h9, pz_small_t h13 (i32_le (by omega) h19)] at hc
            cases hc
          · refine ax_iconst (v := (-1)) (q := 23) B d_R_word_22 ci_m1 rfl ?_
            refine ax_goto (q := 37) B d_R_word_23 rfl ?_
            refine ax_iret B E d_R_word_37 ?_
            exact ⟨rfl, rfl⟩
theorem q_arm {l : Launch} {G : aw_G} (hG : gr G) {h : aw_H} {S : pz_S} (hS : qz G S h) (x : Int32) : aw_F l G 0 Y_R_arm [.inl (some 40), .inr x] h (fun v h' => v = .inr (pz_arm S x).1 ∧ qz G (pz_arm S x).2 h' ∧ ∀ q, q < 40 → h' q = h q) := by
  obtain ⟨n, k, w, sp, t⟩ := S
  refine aw_met hG.1.1 (by decide) (Nat.le_of_ble_eq_true rfl) (fun M hM B E => ?_)
  show aw_X M G 2 0 [some (.inl (some 40)), some (.inr x)] [] h
  have i40 := hG.i40
  have E : aw_E M G (some .boolean) (fun r h' => ∃ v, r = some v ∧ (v = .inr (if pz_small x 1001 = false then (nI 0, (n, k, w, sp, t)) else (nI 1, (n, k, w, x.toNatClampNeg + 1, t)) : Int32 × pz_S).1 ∧ qz G (if pz_small x 1001 = false then (nI 0, (n, k, w, sp, t)) else (nI 1, (n, k, w, x.toNatClampNeg + 1, t)) : Int32 × pz_S).2 h' ∧ ∀ q, q < 40 → h' q = h q)) := E
  cases hx : pz_small x 1001 with
  | false =>
    rw [if_pos hx] at E
    refine ax_iload_n (q := 1) B d_R_arm_0 rfl rfl rfl ?_
    refine ax_if_lt (q := 11) (q2 := 4) B d_R_arm_1 rfl rfl (fun h1 => ?_) (fun h1 => ?_)
    · refine ax_iconst (v := nI 0) (q := 12) B d_R_arm_11 ci_0 rfl ?_
      refine ax_zret B E (by first | exact bI_or _ | decide) d_R_arm_12 ?_
      exact ⟨_, rfl, rfl, hS, fun q _ => rfl⟩
    · refine ax_iload_n (q := 5) B d_R_arm_4 rfl rfl rfl ?_
      refine ax_sipush (v := nI 1000) (q := 8) B d_R_arm_5 cs_1000 rfl ?_
      refine ax_icmp_le (q := 13) (q2 := 11) B d_R_arm_8 rfl rfl (fun h8 => ?_) (fun h8 => ?_)
      · rw [pz_small_t h1 (i32_le (by omega) h8)] at hx
        cases hx
      · refine ax_iconst (v := nI 0) (q := 12) B d_R_arm_11 ci_0 rfl ?_
        refine ax_zret B E (by first | exact bI_or _ | decide) d_R_arm_12 ?_
        exact ⟨_, rfl, rfl, hS, fun q _ => rfl⟩
  | true =>
    rw [if_neg (by rw [hx]; decide)] at E
    obtain ⟨j, hj, rfl⟩ := pz_small_e (by omega) hx
    rw [nI_clamp (by omega)] at E
    obtain ⟨hn, hw, ⟨e1, e2, hk, hsp, e3, e4⟩, hT⟩ := hS
    refine ax_iload_n (q := 1) B d_R_arm_0 rfl rfl rfl ?_
    refine ax_ifN_lt (q := 11) (q2 := 4) B (by omega) d_R_arm_1 rfl rfl ?_
    refine ax_iload_n (q := 5) B d_R_arm_4 rfl rfl rfl ?_
    refine ax_sipush (v := nI 1000) (q := 8) B d_R_arm_5 cs_1000 rfl ?_
    refine ax_icmpN_le (q := 13) (q2 := 11) B (by omega) (by omega) d_R_arm_8 rfl rfl (fun h8 => ?_) (fun h8 => ?_)
    · refine ax_aload_n (q := 14) B d_R_arm_13 rfl rfl rfl ?_
      refine ax_iconst (v := nI 1) (q := 15) B d_R_arm_14 ci_1 rfl ?_
      refine ax_putB (q := 18) B fp_R_72 (by first | exact bI_or _ | decide) d_R_arm_15 (by assumption) rfl ?_
      refine ax_aload_n (q := 19) B d_R_arm_18 rfl rfl rfl ?_
      refine ax_iload_n (q := 20) B d_R_arm_19 rfl rfl rfl ?_
      refine ax_putN (q := 23) B fp_R_76 d_R_arm_20 (by assumption) rfl ?_
      refine ax_iconst (v := nI 1) (q := 24) B d_R_arm_23 ci_1 rfl ?_
      refine ax_zret B E (by first | exact bI_or _ | decide) d_R_arm_24 ?_
      exact ⟨_, rfl, rfl, ⟨hn, hw.kept (by rw [aw_u_ne (by omega), aw_u_ne (by omega)]), ⟨aw_rd (by omega) (aw_rd (by omega) e1), aw_rd (by omega) (aw_rd (by omega) e2), hk, (show j + 1 ≤ 1001 by omega), aw_rd (by omega) (aw_rs.trans (by show nI 1 = bI (decide (j + 1 ≠ 0)); rw [decide_eq_true (by omega)]; rfl)), fun _ => aw_rs⟩, hT.kept (fun q q1 q2 => by rw [aw_u_ne (by omega), aw_u_ne (by omega)])⟩, fun q hq => by rw [aw_u_ne (by omega), aw_u_ne (by omega)]⟩
    · omega
theorem q_crash {l : Launch} {G : aw_G} (hG : gr G) {h : aw_H} {S : pz_S} (hS : qz G S h) (hI : pz_inv S) : aw_F l G 6 Y_R_crash [.inl (some 40)] h (fun v h' => v = .inr (pz_crash S).1 ∧ qz G (pz_crash S).2 h' ∧ ∀ q, q < 40 → h' q = h q) := by
  obtain ⟨n, k, w, sp, t⟩ := S
  have hi := hI.iz
  obtain ⟨hn, hw, ⟨e1, e2, hk, hsp, e3, e4⟩, hT⟩ := hS
  have hk : k ≤ aw_n G := hk
  have hw : rw_ w h := hw
  have e2 : h 40 2 = nI k := e2
  have n2 := hG.1.2.2.2
  refine aw_met hG.1.1 (by decide) (Nat.le_of_ble_eq_true rfl) (fun M hM B E => ?_)
  show aw_X M G 2 0 [some (.inl (some 40)), none] [] h
  have i40 := hG.i40
  have a41 := hG.a41
  have r0 : aw_rM 40 0 = some 41 := rfl
  refine ax_aload_n (q := 1) B d_R_crash_0 rfl rfl rfl ?_
  refine ax_pV0 (q := 4) B cv_R_79 d_R_crash_1 (by assumption) (Nat.le_of_ble_eq_true rfl) (by decide) (r_readBack hG hw (by omega) e2 hi) rfl (fun h1 hh1 => ?_)
  obtain ⟨hT1, hf1⟩ := hh1
  refine ax_aload_n (q := 5) B d_R_crash_4 rfl rfl rfl ?_
  refine ax_iconst (v := nI 0) (q := 6) B d_R_crash_5 ci_0 rfl ?_
  refine ax_putB (q := 9) B fp_R_72 (by first | exact bI_or _ | decide) d_R_crash_6 (by assumption) rfl ?_
  obtain ⟨h2, hh2⟩ : ∃ h2, h2 = aw_u h1 40 3 (nI 0) := ⟨_, rfl⟩
  rw [← hh2]
  have hw2 : rw_ w h2 := hw.kept (by rw [hh2, aw_u_ne (by omega), hf1 41 (by omega)])
  have e22 : h2 40 2 = nI k := by rw [hh2]; exact aw_rd (by omega) (by rw [hf1 40 (by omega)]; exact e2)
  have hm2 : rm_ G k 0 h2 := ⟨by rw [hh2]; exact aw_rd (by omega) (by rw [hf1 40 (by omega)]; exact e1), e22, hk, by omega, by rw [hh2]; exact aw_rs, fun z => absurd rfl z⟩
  have hT2 : rt (pz_back w k) h2 := hT1.kept (fun q q1 q2 => by rw [hh2]; exact aw_u_ne (by omega))
  have fr : ∀ q, q < 40 → h2 q = h q := fun q hq => by rw [hh2, aw_u_ne (by omega), hf1 q (by omega)]
  refine ax_aload_n (q := 10) B d_R_crash_9 rfl rfl rfl ?_
  refine ax_qV0 (q := 13) B cv_R_92 d_R_crash_10 (by assumption) (Nat.le_of_ble_eq_true rfl) (by decide) (r_newest hG hw2 (by omega) e22 hi) rfl ?_
  have E : aw_E M G (some .int) (fun r h' => ∃ v, r = some v ∧ (v = .inr (nI (pz_num w k)) ∧ qz G (n, k, w, 0, pz_back w k) h' ∧ ∀ q, q < 40 → h' q = h q)) := E
  unfold pz_num at E
  cases hx : pz_newest w k with
  | none =>
    rw [hx] at E
    refine ax_istore_n (q := 14) B d_R_crash_13 rfl (by decide) rfl ?_
    refine ax_iload_n (q := 15) B d_R_crash_14 rfl rfl rfl ?_
    refine ax_if_ge (q := 22) (q2 := 18) B d_R_crash_15 rfl rfl (fun h15 => ?_) (fun h15 => ?_)
    · exact absurd h15 (by decide)
    · refine ax_iconst (v := nI 0) (q := 19) B d_R_crash_18 ci_0 rfl ?_
      refine ax_goto (q := 33) B d_R_crash_19 rfl ?_
      refine ax_iret B E d_R_crash_33 ?_
      exact ⟨_, rfl, rfl, ⟨hn, hw2, hm2, hT2⟩, fr⟩
  | some p =>
    rw [hx] at E
    have hp := (pz_newest_lt k hx).1
    have ew := (hw2 (16 * p + 3) (by omega)).1
    show aw_X M G 2 13 [some (.inl (some 40)), none] [.inr (nI p)] h2
    refine ax_istore_n (q := 14) B d_R_crash_13 rfl (by decide) rfl ?_
    refine ax_iload_n (q := 15) B d_R_crash_14 rfl rfl rfl ?_
    refine ax_ifN_ge (q := 22) (q2 := 18) B (by omega) d_R_crash_15 rfl rfl ?_
    refine ax_aload_n (q := 23) B d_R_crash_22 rfl rfl rfl ?_
    refine ax_getP (q := 26) B fl_R_7 rfl d_R_crash_23 (by assumption) (by assumption) rfl ?_
    refine ax_bipush (v := nI 16) (q := 28) B d_R_crash_26 cb_16 rfl ?_
    refine ax_iload_n (q := 29) B d_R_crash_28 rfl rfl rfl ?_
    first | refine ax_imulN (q := 30) B d_R_crash_29 rfl ?_ | refine ax_imul (q := 30) B d_R_crash_29 rfl ?_
    refine ax_iconst (v := nI 3) (q := 31) B d_R_crash_30 ci_3 rfl ?_
    first | refine ax_iaddN (q := 32) B d_R_crash_31 rfl ?_ | refine ax_iadd (q := 32) B d_R_crash_31 rfl ?_
    refine ax_ialdN (q := 33) B d_R_crash_32 (by assumption) rfl (by omega) (by omega) (by first | assumption | rfl) rfl ?_
    refine ax_iret B E d_R_crash_33 ?_
    exact ⟨_, rfl, rfl, ⟨hn, hw2, hm2, hT2⟩, fr⟩
theorem q_spoil {l : Launch} {G : aw_G} (hG : gr G) {h : aw_H} {S : pz_S} (hS : qz G S h) (x : Int32) : aw_F l G 0 Y_R_spoil [.inl (some 40), .inr x] h (fun v h' => v = .inr (pz_spoil S x).1 ∧ qz G (pz_spoil S x).2 h' ∧ ∀ q, q < 40 → h' q = h q) := by
  obtain ⟨n, k, w, sp, t⟩ := S
  have hS' := hS
  obtain ⟨hn, hw, ⟨e1, e2, hk, hsp, e3, e4⟩, hT⟩ := hS
  have hk : k ≤ aw_n G := hk
  have hw : rw_ w h := hw
  have e2 : h 40 2 = nI k := e2
  have n2 := hG.1.2.2.2
  refine aw_met hG.1.1 (by decide) (Nat.le_of_ble_eq_true rfl) (fun M hM B E => ?_)
  show aw_X M G 2 0 [some (.inl (some 40)), some (.inr x)] [] h
  have i40 := hG.i40
  have a41 := hG.a41
  have r0 : aw_rM 40 0 = some 41 := rfl
  have E : aw_E M G (some .boolean) (fun r h' => ∃ v, r = some v ∧ (v = .inr (if pz_small x k = false then (nI 0, (n, k, w, sp, t)) else (nI 1, (n, k, pz_up w (16 * x.toNatClampNeg + 1) (w (16 * x.toNatClampNeg + 1) ^^^ 1), sp, t)) : Int32 × pz_S).1 ∧ qz G (if pz_small x k = false then (nI 0, (n, k, w, sp, t)) else (nI 1, (n, k, pz_up w (16 * x.toNatClampNeg + 1) (w (16 * x.toNatClampNeg + 1) ^^^ 1), sp, t)) : Int32 × pz_S).2 h' ∧ ∀ q, q < 40 → h' q = h q)) := E
  cases hx : pz_small x k with
  | false =>
    rw [if_pos hx] at E
    refine ax_iload_n (q := 1) B d_R_spoil_0 rfl rfl rfl ?_
    refine ax_if_lt (q := 12) (q2 := 4) B d_R_spoil_1 rfl rfl (fun h1 => ?_) (fun h1 => ?_)
    · refine ax_iconst (v := nI 0) (q := 13) B d_R_spoil_12 ci_0 rfl ?_
      refine ax_zret B E (by first | exact bI_or _ | decide) d_R_spoil_13 ?_
      exact ⟨_, rfl, rfl, hS', fun q _ => rfl⟩
    · refine ax_iload_n (q := 5) B d_R_spoil_4 rfl rfl rfl ?_
      refine ax_aload_n (q := 6) B d_R_spoil_5 rfl rfl rfl ?_
      refine ax_getN (q := 9) B fl_R_66 rfl d_R_spoil_6 (by assumption) (by first | assumption | rfl) rfl ?_
      refine ax_icmp_lt (q := 14) (q2 := 12) B d_R_spoil_9 rfl rfl (fun h9 => ?_) (fun h9 => ?_)
      · rw [pz_small_t h1 (fun z => i32_nlt z h9)] at hx
        cases hx
      · refine ax_iconst (v := nI 0) (q := 13) B d_R_spoil_12 ci_0 rfl ?_
        refine ax_zret B E (by first | exact bI_or _ | decide) d_R_spoil_13 ?_
        exact ⟨_, rfl, rfl, hS', fun q _ => rfl⟩
  | true =>
    rw [if_neg (by rw [hx]; decide)] at E
    obtain ⟨j, hj, rfl⟩ := pz_small_e (by omega) hx
    rw [nI_clamp (by omega)] at E
    obtain ⟨wj, wl⟩ := hw (16 * j + 1) (by omega)
    have fw : rw_ (pz_up w (16 * j + 1) (w (16 * j + 1) ^^^ 1)) (aw_u h 41 (16 * j + 1) (nI (w (16 * j + 1) ^^^ 1))) := fun y hy => by
      by_cases h1 : y = 16 * j + 1
      · subst h1
        rw [pz_up_s]
        exact ⟨aw_rs, pz_xor_lt (j := 16) wl (by omega)⟩
      · rw [pz_up_n h1]
        exact ⟨aw_rd (by omega) (hw y hy).1, (hw y hy).2⟩
    refine ax_iload_n (q := 1) B d_R_spoil_0 rfl rfl rfl ?_
    refine ax_ifN_lt (q := 12) (q2 := 4) B (by omega) d_R_spoil_1 rfl rfl ?_
    refine ax_iload_n (q := 5) B d_R_spoil_4 rfl rfl rfl ?_
    refine ax_aload_n (q := 6) B d_R_spoil_5 rfl rfl rfl ?_
    refine ax_getN (q := 9) B fl_R_66 rfl d_R_spoil_6 (by assumption) (by first | assumption | rfl) rfl ?_
    refine ax_icmpN_lt (q := 14) (q2 := 12) B (by omega) (by omega) d_R_spoil_9 rfl rfl (fun h9 => ?_) (fun h9 => ?_)
    · refine ax_aload_n (q := 15) B d_R_spoil_14 rfl rfl rfl ?_
      refine ax_getP (q := 18) B fl_R_7 rfl d_R_spoil_15 (by assumption) (by assumption) rfl ?_
      refine ax_bipush (v := nI 16) (q := 20) B d_R_spoil_18 cb_16 rfl ?_
      refine ax_iload_n (q := 21) B d_R_spoil_20 rfl rfl rfl ?_
      first | refine ax_imulN (q := 22) B d_R_spoil_21 rfl ?_ | refine ax_imul (q := 22) B d_R_spoil_21 rfl ?_
      refine ax_iconst (v := nI 1) (q := 23) B d_R_spoil_22 ci_1 rfl ?_
      first | refine ax_iaddN (q := 24) B d_R_spoil_23 rfl ?_ | refine ax_iadd (q := 24) B d_R_spoil_23 rfl ?_
      refine ax_aload_n (q := 25) B d_R_spoil_24 rfl rfl rfl ?_
      refine ax_getP (q := 28) B fl_R_7 rfl d_R_spoil_25 (by assumption) (by assumption) rfl ?_
      refine ax_bipush (v := nI 16) (q := 30) B d_R_spoil_28 cb_16 rfl ?_
      refine ax_iload_n (q := 31) B d_R_spoil_30 rfl rfl rfl ?_
      first | refine ax_imulN (q := 32) B d_R_spoil_31 rfl ?_ | refine ax_imul (q := 32) B d_R_spoil_31 rfl ?_
      refine ax_iconst (v := nI 1) (q := 33) B d_R_spoil_32 ci_1 rfl ?_
      first | refine ax_iaddN (q := 34) B d_R_spoil_33 rfl ?_ | refine ax_iadd (q := 34) B d_R_spoil_33 rfl ?_
      refine ax_ialdN (q := 35) B d_R_spoil_34 (by assumption) rfl (by omega) (by omega) (by first | assumption | rfl) rfl ?_
      refine ax_iconst (v := nI 1) (q := 36) B d_R_spoil_35 ci_1 rfl ?_
      first | refine ax_ixorN (q := 37) B d_R_spoil_36 rfl ?_ | refine ax_ixor (q := 37) B d_R_spoil_36 rfl ?_
      refine ax_iastN (q := 38) B d_R_spoil_37 (by assumption) rfl (by omega) (by omega) rfl ?_
      refine ax_iconst (v := nI 1) (q := 39) B d_R_spoil_38 ci_1 rfl ?_
      refine ax_zret B E (by first | exact bI_or _ | decide) d_R_spoil_39 ?_
      exact ⟨_, rfl, rfl, ⟨hn, fw, ⟨aw_rd (by omega) e1, aw_rd (by omega) e2, hk, hsp, aw_rd (by omega) e3, fun z => aw_rd (by omega) (e4 z)⟩, hT.kept (fun q q1 q2 => aw_u_ne (by omega))⟩, fun q hq => aw_u_ne (by omega)⟩
    · omega
