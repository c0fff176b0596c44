/-- a file's blocks in any tree that can be seen lie on the medium -/
theorem pz_tv_blk {S : pz_S} (hI : pz_inv S) (a : Int32) {i j : Nat} (hi : i < 8) (h2 : pz_kd (pz_tv S a) i = 2) (hj : j < pz_ct (pz_tv S a) i) : pz_it (pz_tv S a) i j < S.2.1 := by
  obtain ⟨n, k, w, sp, t⟩ := S
  obtain ⟨-, -, -, -, -, -, hw, -, h9⟩ := hI
  unfold pz_tv at h2 hj ⊢
  by_cases ha : a = 0
  · rw [if_pos ha] at h2 hj ⊢
    exact (hw.2.2.2.1 i hi h2).2 j hj
  · rw [if_neg ha] at h2 hj ⊢
    have h2 : pz_kd (pz_past w a k) i = 2 := h2
    have hj : j < pz_ct (pz_past w a k) i := hj
    show pz_it (pz_past w a k) i j < k
    unfold pz_past at h2 hj ⊢
    cases hx : pz_tabAt w a k with
    | none => rw [hx] at h2; cases h2
    | some p =>
      rw [hx] at h2 hj
      obtain ⟨hp, hv⟩ := pz_tabAt_lt k hx
      exact ((h9 p hp (pz_valid_3 hv)).2.1.2.2.2.1 i hi h2).2 j hj
theorem p_block {l : Launch} {G : aw_G} (hG : gz G) {h : aw_H} {S : pz_S} (hS : cz G S h) (hI : pz_inv S) (a x y : Int32) : aw_F l G 6 Y_S_block [.inl (some 0), .inr a, .inr x, .inr y] h (fun v h' => v = .inr (pz_block S a x y) ∧ cz G S h' ∧ ∀ q, 40 ≤ q → h' q = h q) := by
  refine aw_met hG.1 (by decide) (Nat.le_of_ble_eq_true rfl) (fun M hM B E => ?_)
  show aw_X M G 6 0 [some (.inl (some 0)), some (.inr a), some (.inr x), some (.inr y), none, none] [] h
  have i0 := hG.is0
  have i1 := hG.is1
  have r0 : aw_rM 0 0 = some 1 := rfl
  have n2 := hG.2.2.2
  refine ax_aload_n (q := 1) B d_S_block_0 rfl rfl rfl ?_
  refine ax_iload_n (q := 2) B d_S_block_1 rfl rfl rfl ?_
  refine ax_gV1 (q := 5) B cv_S_152 d_S_block_2 (by assumption) (Nat.le_of_ble_eq_true rfl) (by decide) (k_tree hG hS hI a) rfl (fun v h1 hv => ?_)
  obtain ⟨tb, rfl, ht, hT, hS1, hf⟩ := hv
  have it := ht.2.1
  unfold pz_block at E
  have hb := fun i j => pz_tv_blk hI a (i := i) (j := j)
  generalize pz_tv S a = t at hT E hb
  refine ax_iload_n (q := 6) B d_S_block_5 rfl rfl rfl ?_
  refine ax_qV1 (q := 9) B cv_S_76 d_S_block_6 (by assumption) (Nat.le_of_ble_eq_true rfl) (by decide) (k_fileAt hG.1 ht hT x) rfl ?_
  cases hx : pz_nd t (fun c => c == 2) x with
  | none =>
    rw [hx] at E
    refine ax_astore (q := 11) B d_S_block_9 (by decide) rfl ?_
    refine ax_aload (q := 13) B d_S_block_11 rfl rfl ?_
    refine ax_ifnull (q := 25) (q2 := 16) B d_S_block_13 rfl rfl (fun h13 => ?_) (fun _ h13 => ?_)
    · refine ax_iconst (v := (-1)) (q := 26) B d_S_block_25 ci_m1 rfl ?_
      refine ax_iret B E d_S_block_26 ?_
      exact ⟨_, rfl, rfl, hS1, hf⟩
    · cases h13
  | some i =>
    rw [hx] at E
    obtain ⟨hi8, hk2, -⟩ := pz_nd_lt hx
    have hk2 : pz_kd t i = 2 := beq_iff_eq.mp hk2
    obtain ⟨ii, ri, ai⟩ := (ht.2.2.2.2 i hi8).2
    have ni := (ht.2.2.2.2 i hi8).2
    have hN := hT i hi8
    have hc := hN.2.2.2.2.2.1
    have E : aw_E M G (some .int) (fun r h' => ∃ v, r = some v ∧ (v = .inr (if pz_small y (pz_ct t i) = true then (if pz_good S.2.2.1 (pz_it t i y.toNatClampNeg) = true then nI (S.2.2.1 (16 * pz_it t i y.toNatClampNeg + 4)) else -8) else -1) ∧ cz G S h' ∧ ∀ q, 40 ≤ q → h' q = h q)) := E
    show aw_X M G 6 9 [some (.inl (some 0)), some (.inr a), some (.inr x), some (.inr y), none, none] [.inl (some (tb + 2 + 2 * i))] h1
    have tail : ∀ j, y = nI j → j < pz_ct t i → aw_X M G 6 27 [some (.inl (some 0)), some (.inr a), some (.inr x), some (.inr y), some (.inl (some (tb + 2 + 2 * i))), none] [] h1 := by
      intro j hy hj
      subst hy
      rw [if_pos (pz_small_N (by omega) hj), nI_clamp (by omega)] at E
      have ej := (hN.2.2.2.2.2.2 j hj).1
      have hbj := hb i j hi8 hk2 hj
      have hkn := hS1.2.1.2.2.2.1
      generalize pz_it t i j = p at ej hbj E
      refine ax_aload (q := 29) B d_S_block_27 rfl rfl ?_
      refine ax_getP (q := 32) B fl_S_159 rfl d_S_block_29 (by assumption) (by assumption) rfl ?_
      refine ax_iload_n (q := 33) B d_S_block_32 rfl rfl rfl ?_
      refine ax_ialdN (q := 34) B d_S_block_33 (by assumption) rfl (by omega) (by omega) (by first | assumption | rfl) rfl ?_
      refine ax_istore (q := 36) B d_S_block_34 (by decide) rfl ?_
      refine ax_aload_n (q := 37) B d_S_block_36 rfl rfl rfl ?_
      refine ax_getP (q := 40) B fl_S_23 rfl d_S_block_37 (by assumption) (by assumption) rfl ?_
      refine ax_iload (q := 42) B d_S_block_40 rfl rfl ?_
      refine ax_qV1 (q := 45) B cv_S_163 d_S_block_42 (by assumption) (Nat.le_of_ble_eq_true rfl) (by decide) (k_good hG hS1.2.1 hbj) rfl ?_
      refine ax_ifZ_eq (q := 61) (q2 := 48) B d_S_block_45 rfl rfl (fun h45 => ?_) (fun h45 => ?_)
      · refine ax_bipush (v := (-8)) (q := 63) B d_S_block_61 cb_m8 rfl ?_
        refine ax_iret B E d_S_block_63 ?_
        exact ⟨_, rfl, by rw [h45]; rfl, hS1, hf⟩
      · refine ax_aload_n (q := 49) B d_S_block_48 rfl rfl rfl ?_
        refine ax_getP (q := 52) B fl_S_23 rfl d_S_block_49 (by assumption) (by assumption) rfl ?_
        refine ax_iload (q := 54) B d_S_block_52 rfl rfl ?_
        refine ax_iconst (v := nI 4) (q := 55) B d_S_block_54 ci_4 rfl ?_
        refine ax_qV2 (q := 58) B cv_S_166 d_S_block_55 (by assumption) (Nat.le_of_ble_eq_true rfl) (by decide) (k_word hG hS1.2.1.1 (by omega) (by omega)) rfl ?_
        refine ax_goto (q := 63) B d_S_block_58 rfl ?_
        refine ax_iret B E d_S_block_63 ?_
        exact ⟨_, rfl, by rw [h45]; rfl, hS1, hf⟩
    refine ax_astore (q := 11) B d_S_block_9 (by decide) rfl ?_
    refine ax_aload (q := 13) B d_S_block_11 rfl rfl ?_
    refine ax_ifnull (q := 25) (q2 := 16) B d_S_block_13 rfl rfl (fun h13 => ?_) (fun _ h13 => ?_)
    · first | (cases h13; done) | (rw [if_neg (by rw [h22]; decide)] at E; refine ax_iconst (v := (-1)) (q := 26) B d_S_block_25 ci_m1 rfl ?_; exact ax_iret B E d_S_block_26 ⟨_, rfl, rfl, hS1, hf⟩)
    · refine ax_aload (q := 18) B d_S_block_16 rfl rfl ?_
      refine ax_iload_n (q := 19) B d_S_block_18 rfl rfl rfl ?_
      refine ax_qV1 (q := 22) B cv_S_156 d_S_block_19 (by assumption) (Nat.le_of_ble_eq_true rfl) (by decide) (k_has hG.1 ni hN.2.1 y) rfl ?_
      refine ax_ifZ_ne (q := 27) (q2 := 25) B d_S_block_22 rfl rfl (fun h22 => ?_) (fun h22 => ?_)
      · obtain ⟨j, hj, hy⟩ := pz_small_e (by omega) h22
        exact tail j hy hj
      · first | (cases h13; done) | (rw [if_neg (by rw [h22]; decide)] at E; refine ax_iconst (v := (-1)) (q := 26) B d_S_block_25 ci_m1 rfl ?_; exact ax_iret B E d_S_block_26 ⟨_, rfl, rfl, hS1, hf⟩)
