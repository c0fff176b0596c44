theorem nI_nm1 {s : Nat} (h : s < 2 ^ 31) : ¬ nI s = -1 := fun z => by
  have h2 := nI_pos h
  rw [z] at h2
  exact h2 (by decide)
theorem aw_u_id {h : aw_H} {p k : Nat} {x : Int32} (e : h p k = x) : aw_u h p k x = h := by
  funext q
  unfold aw_u
  split
  · rename_i hq
    subst hq
    funext j
    unfold upd
    split
    · rename_i hj
      subst hj
      exact e.symm
    · rfl
  · rfl
/-- is the sector at a written place good -/
theorem k_isGood {l : Launch} {G : aw_G} (hG : gz G) {h : aw_H} {k : Nat} (e0 : h 1 0 = nI (aw_n G)) (e3 : h 1 3 = nI k) (hk : k ≤ aw_n G) {p : Nat} (hp : p < k) : aw_I l G 2 Y_M_isGood [.inl (some 1), .inr (nI p)] h (.inr (bI (decide (h 2 (16 * p + 1) = h 3 p)))) := by
  refine aw_met hG.1 (by decide) (Nat.le_of_ble_eq_true rfl) (fun M hM B E => ?_)
  show aw_X M G 2 0 [some (.inl (some 1)), some (.inr (nI p))] [] h
  have i1 := hG.is1
  have a3 := hG.ar3
  have r2 : aw_rM 1 2 = some 3 := rfl
  have hG' := hG
  obtain ⟨-, -, n1, n2⟩ := hG
  have hw : pz_small (nI p) k = true := pz_small_N (by omega) hp
  refine ax_aload_n (q := 1) B d_M_isGood_0 rfl rfl rfl ?_
  refine ax_iload_n (q := 2) B d_M_isGood_1 rfl rfl rfl ?_
  refine ax_qV1 (q := 5) B cv_M_32 d_M_isGood_2 (by assumption) (Nat.le_of_ble_eq_true rfl) (by decide) (k_isWritten hG' e3 _) rfl ?_
  refine ax_ifZ_eq (q := 27) (q2 := 8) B d_M_isGood_5 rfl rfl (fun h5 => ?_) (fun h5 => ?_)
  · refine ax_iconst (v := nI 0) (q := 28) B d_M_isGood_27 ci_0 rfl ?_
    refine ax_zret B E (by first | exact bI_or _ | decide) d_M_isGood_28 ?_
    first | (rw [hw] at h5; cases h5; done) | exact ⟨by rw [decide_eq_false h20]; rfl, rfl⟩ | exact ⟨by rw [decide_eq_true h20]; rfl, rfl⟩
  · refine ax_aload_n (q := 9) B d_M_isGood_8 rfl rfl rfl ?_
    refine ax_iload_n (q := 10) B d_M_isGood_9 rfl rfl rfl ?_
    refine ax_iconst (v := nI 1) (q := 11) B d_M_isGood_10 ci_1 rfl ?_
    refine ax_qV2 (q := 14) B cv_M_36 d_M_isGood_11 (by assumption) (Nat.le_of_ble_eq_true rfl) (by decide) (k_wordAt hG' e0 (by omega) (by omega)) rfl ?_
    refine ax_aload_n (q := 15) B d_M_isGood_14 rfl rfl rfl ?_
    refine ax_getP (q := 18) B fl_M_19 rfl d_M_isGood_15 (by assumption) (by assumption) rfl ?_
    refine ax_iload_n (q := 19) B d_M_isGood_18 rfl rfl rfl ?_
    refine ax_ialdN (q := 20) B d_M_isGood_19 (by assumption) rfl (by omega) (by omega) (by first | assumption | rfl) rfl ?_
    refine ax_icmp_ne (q := 27) (q2 := 23) B d_M_isGood_20 rfl rfl (fun h20 => ?_) (fun h20 => ?_)
    · refine ax_iconst (v := nI 0) (q := 28) B d_M_isGood_27 ci_0 rfl ?_
      refine ax_zret B E (by first | exact bI_or _ | decide) d_M_isGood_28 ?_
      first | (rw [hw] at h5; cases h5; done) | exact ⟨by rw [decide_eq_false h20]; rfl, rfl⟩ | exact ⟨by rw [decide_eq_true h20]; rfl, rfl⟩
    · refine ax_iconst (v := nI 1) (q := 24) B d_M_isGood_23 ci_1 rfl ?_
      refine ax_goto (q := 28) B d_M_isGood_24 rfl ?_
      refine ax_zret B E (by first | exact bI_or _ | decide) d_M_isGood_28 ?_
      first | (rw [hw] at h5; cases h5; done) | exact ⟨by rw [decide_eq_false h20]; rfl, rfl⟩ | exact ⟨by rw [decide_eq_true h20]; rfl, rfl⟩
theorem k_flipCheck {l : Launch} {G : aw_G} (hG : gz G) {h : aw_H} {k : Nat} (e3 : h 1 3 = nI k) (hk : k ≤ aw_n G) {p : Nat} (hp : p < k) : aw_P l G 1 Y_M_flipCheck [.inl (some 1), .inr (nI p)] h (fun h' => h' = aw_u h 2 (16 * p + 1) (h 2 (16 * p + 1) ^^^ nI 1)) := by
  refine aw_met hG.1 (by decide) (Nat.le_of_ble_eq_true rfl) (fun M hM B E => ?_)
  show aw_X M G 2 0 [some (.inl (some 1)), some (.inr (nI p))] [] h
  have i1 := hG.is1
  have a2 := hG.ar2
  have r1 : aw_rM 1 1 = some 2 := rfl
  have hG' := hG
  obtain ⟨-, -, n1, n2⟩ := hG
  have hw : pz_small (nI p) k = true := pz_small_N (by omega) hp
  refine ax_aload_n (q := 1) B d_M_flipCheck_0 rfl rfl rfl ?_
  refine ax_iload_n (q := 2) B d_M_flipCheck_1 rfl rfl rfl ?_
  refine ax_qV1 (q := 5) B cv_M_32 d_M_flipCheck_2 (by assumption) (Nat.le_of_ble_eq_true rfl) (by decide) (k_isWritten hG' e3 _) rfl ?_
  refine ax_ifZ_eq (q := 23) (q2 := 8) B d_M_flipCheck_5 rfl rfl (fun h5 => ?_) (fun h5 => ?_)
  · refine ax_vret B E d_M_flipCheck_23 ?_
    first | (rw [hw] at h5; cases h5; done) | exact ⟨rfl, rfl⟩
  · refine ax_aload_n (q := 9) B d_M_flipCheck_8 rfl rfl rfl ?_
    refine ax_getP (q := 12) B fl_M_15 rfl d_M_flipCheck_9 (by assumption) (by assumption) rfl ?_
    refine ax_iload_n (q := 13) B d_M_flipCheck_12 rfl rfl rfl ?_
    refine ax_bipush (v := nI 16) (q := 15) B d_M_flipCheck_13 cb_16 rfl ?_
    first | refine ax_imulN (q := 16) B d_M_flipCheck_15 rfl ?_ | refine ax_imul (q := 16) B d_M_flipCheck_15 rfl ?_
    refine ax_iconst (v := nI 1) (q := 17) B d_M_flipCheck_16 ci_1 rfl ?_
    first | refine ax_iaddN (q := 18) B d_M_flipCheck_17 rfl ?_ | refine ax_iadd (q := 18) B d_M_flipCheck_17 rfl ?_
    refine ax_dup2 (q := 19) B d_M_flipCheck_18 rfl ?_
    refine ax_ialdN (j := 16 * p + 1) (q := 20) B d_M_flipCheck_19 (by assumption) (congrArg nI (by omega)) (by omega) (by omega) rfl rfl ?_
    refine ax_iconst (v := nI 1) (q := 21) B d_M_flipCheck_20 ci_1 rfl ?_
    refine ax_ixor (q := 22) B d_M_flipCheck_21 rfl ?_
    refine ax_iastN (j := 16 * p + 1) (q := 23) B d_M_flipCheck_22 (by assumption) (congrArg nI (by omega)) (by omega) (by omega) rfl ?_
    refine ax_vret B E d_M_flipCheck_23 ?_
    first | (rw [hw] at h5; cases h5; done) | exact ⟨rfl, rfl⟩
/-- a word of the sector that is being written -/
theorem k_put {l : Launch} {G : aw_G} (hG : gz G) {h : aw_H} {k : Nat} (e0 : h 1 0 = nI (aw_n G)) (e3 : h 1 3 = nI k) (hk : k < aw_n G) {i : Nat} (hi : i < 16) (v : Int32) : aw_P l G 1 Y_M_put [.inl (some 1), .inr (nI i), .inr v] h (fun h' => h' = aw_u h 2 (16 * k + i) v) := by
  refine aw_met hG.1 (by decide) (Nat.le_of_ble_eq_true rfl) (fun M hM B E => ?_)
  show aw_X M G 3 0 [some (.inl (some 1)), some (.inr (nI i)), some (.inr v)] [] h
  have i1 := hG.is1
  have a2 := hG.ar2
  have r1 : aw_rM 1 1 = some 2 := rfl
  have hG' := hG
  obtain ⟨-, -, n1, n2⟩ := hG
  have hw : (pz_small (nI k) (aw_n G) && pz_small (nI i) 16) = true := by rw [pz_small_N (by omega) hk, pz_small_N (by omega) hi]; rfl
  refine ax_aload_n (q := 1) B d_M_put_0 rfl rfl rfl ?_
  refine ax_aload_n (q := 2) B d_M_put_1 rfl rfl rfl ?_
  refine ax_getN (q := 5) B fl_M_22 rfl d_M_put_2 (by assumption) (by first | assumption | rfl) rfl ?_
  refine ax_iload_n (q := 6) B d_M_put_5 rfl rfl rfl ?_
  refine ax_qV2 (q := 9) B cv_M_28 d_M_put_6 (by assumption) (Nat.le_of_ble_eq_true rfl) (by decide) (k_hasWord hG' e0 _ _) rfl ?_
  refine ax_ifZ_eq (q := 27) (q2 := 12) B d_M_put_9 rfl rfl (fun h9 => ?_) (fun h9 => ?_)
  · refine ax_vret B E d_M_put_27 ?_
    first | (rw [hw] at h9; cases h9; done) | exact ⟨rfl, rfl⟩
  · refine ax_aload_n (q := 13) B d_M_put_12 rfl rfl rfl ?_
    refine ax_getP (q := 16) B fl_M_15 rfl d_M_put_13 (by assumption) (by assumption) rfl ?_
    refine ax_aload_n (q := 17) B d_M_put_16 rfl rfl rfl ?_
    refine ax_getN (q := 20) B fl_M_22 rfl d_M_put_17 (by assumption) (by first | assumption | rfl) rfl ?_
    refine ax_bipush (v := nI 16) (q := 22) B d_M_put_20 cb_16 rfl ?_
    first | refine ax_imulN (q := 23) B d_M_put_22 rfl ?_ | refine ax_imul (q := 23) B d_M_put_22 rfl ?_
    refine ax_iload_n (q := 24) B d_M_put_23 rfl rfl rfl ?_
    first | refine ax_iaddN (q := 25) B d_M_put_24 rfl ?_ | refine ax_iadd (q := 25) B d_M_put_24 rfl ?_
    refine ax_iload_n (q := 26) B d_M_put_25 rfl rfl rfl ?_
    refine ax_iastN (j := 16 * k + i) (q := 27) B d_M_put_26 (by assumption) (congrArg nI (by omega)) (by omega) (by omega) rfl ?_
    refine ax_vret B E d_M_put_27 ?_
    first | (rw [hw] at h9; cases h9; done) | exact ⟨rfl, rfl⟩
theorem k_begin {l : Launch} {G : aw_G} (hG : gz G) {h : aw_H} {k : Nat} (e0 : h 1 0 = nI (aw_n G)) (e3 : h 1 3 = nI k) (hk : k < aw_n G) (a b : Int32) : aw_P l G 2 Y_M_begin [.inl (some 1), .inr a, .inr b] h (fun h' => h' = aw_u (aw_u (aw_u h 2 (16 * k + 0) a) 2 (16 * k + 2) (nI k)) 2 (16 * k + 3) b) := by
  refine aw_met hG.1 (by decide) (Nat.le_of_ble_eq_true rfl) (fun M hM B E => ?_)
  show aw_X M G 3 0 [some (.inl (some 1)), some (.inr a), some (.inr b)] [] h
  have i1 := hG.is1
  refine ax_aload_n (q := 1) B d_M_begin_0 rfl rfl rfl ?_
  refine ax_iconst (v := nI 0) (q := 2) B d_M_begin_1 ci_0 rfl ?_
  refine ax_iload_n (q := 3) B d_M_begin_2 rfl rfl rfl ?_
  refine ax_pV2 (q := 6) B cv_M_40 d_M_begin_3 (by assumption) (Nat.le_of_ble_eq_true rfl) (by decide) (k_put hG e0 e3 hk (by omega) _) rfl (fun h1 hh1 => ?_)
  subst hh1
  obtain ⟨h1, hh1⟩ : ∃ h1, h1 = aw_u h 2 (16 * k + 0) a := ⟨_, rfl⟩
  have e01 : h1 1 0 = nI (aw_n G) := by rw [hh1]; exact e0
  have e31 : h1 1 3 = nI k := by rw [hh1]; exact e3
  rw [← hh1] at ⊢
  refine ax_aload_n (q := 7) B d_M_begin_6 rfl rfl rfl ?_
  refine ax_iconst (v := nI 2) (q := 8) B d_M_begin_7 ci_2 rfl ?_
  refine ax_aload_n (q := 9) B d_M_begin_8 rfl rfl rfl ?_
  refine ax_getN (q := 12) B fl_M_22 rfl d_M_begin_9 (by assumption) (by first | assumption | rfl) rfl ?_
  refine ax_pV2 (q := 15) B cv_M_40 d_M_begin_12 (by assumption) (Nat.le_of_ble_eq_true rfl) (by decide) (k_put hG e01 e31 hk (by omega) _) rfl (fun h2 hh2 => ?_)
  have e02 : h2 1 0 = nI (aw_n G) := by rw [hh2]; exact e01
  have e32 : h2 1 3 = nI k := by rw [hh2]; exact e31
  refine ax_aload_n (q := 16) B d_M_begin_15 rfl rfl rfl ?_
  refine ax_iconst (v := nI 3) (q := 17) B d_M_begin_16 ci_3 rfl ?_
  refine ax_iload_n (q := 18) B d_M_begin_17 rfl rfl rfl ?_
  refine ax_pV2 (q := 21) B cv_M_40 d_M_begin_18 (by assumption) (Nat.le_of_ble_eq_true rfl) (by decide) (k_put hG e02 e32 hk (by omega) _) rfl (fun h3 hh3 => ?_)
  exact ax_vret B E d_M_begin_21 ⟨rfl, by rw [hh3, hh2, hh1]⟩
/-- the check of a sector whose words are f -/
theorem k_checkOf {l : Launch} {G : aw_G} (hG : gz G) {h : aw_H} (e0 : h 1 0 = nI (aw_n G)) {p : Nat} (hp : p < aw_n G) {f : Nat → Nat} (hf : ∀ i, i < 16 → i ≠ 1 → h 2 (16 * p + i) = nI (f i) ∧ f i < 2 ^ 31) : aw_I l G 2 Y_M_checkOf [.inl (some 1), .inr (nI p)] h (.inr (nI (pz_chkN f 16))) := by
  refine aw_met hG.1 (by decide) (Nat.le_of_ble_eq_true rfl) (fun M hM B E => ?_)
  show aw_X M G 4 0 [some (.inl (some 1)), some (.inr (nI p)), none, none] [] h
  have i1 := hG.is1
  have loop : ∀ m j, j + m = 16 → aw_X M G 4 5 [some (.inl (some 1)), some (.inr (nI p)), some (.inr (nI (pz_chkN f j))), some (.inr (nI j))] [] h := by
    intro m
    induction m with
    | zero =>
      intro j hj
      have hj : j = 16 := by omega
      subst hj
      generalize pz_chkN f 16 = x at E ⊢
      refine ax_iload_n (q := 6) B d_M_checkOf_5 rfl rfl rfl ?_
      refine ax_bipush (v := nI 16) (q := 8) B d_M_checkOf_6 cb_16 rfl ?_
      refine ax_icmpN_ge (q := 33) (q2 := 11) B (by omega) (by omega) d_M_checkOf_8 rfl rfl (fun h8 => ?_) (fun h8 => ?_)
      · refine ax_iload_n (q := 34) B d_M_checkOf_33 rfl rfl rfl ?_
        refine ax_iret B E d_M_checkOf_34 ?_
        exact ⟨rfl, rfl⟩
      · omega
    | succ m ih =>
      intro j hj
      have h3 := ih (j + 1) (by omega)
      have hc := pz_chkN_lt f j
      rw [show pz_chkN f (j + 1) = if j = 1 then pz_chkN f j else pz_crcw (pz_chkN f j) (f j) from rfl] at h3
      generalize pz_chkN f j = x at hc h3 ⊢
      refine ax_iload_n (q := 6) B d_M_checkOf_5 rfl rfl rfl ?_
      refine ax_bipush (v := nI 16) (q := 8) B d_M_checkOf_6 cb_16 rfl ?_
      refine ax_icmpN_ge (q := 33) (q2 := 11) B (by omega) (by omega) d_M_checkOf_8 rfl rfl (fun h8 => ?_) (fun h8 => ?_)
      · omega
      · refine ax_iload_n (q := 12) B d_M_checkOf_11 rfl rfl rfl ?_
        refine ax_iconst (v := nI 1) (q := 13) B d_M_checkOf_12 ci_1 rfl ?_
        refine ax_icmpN_eq (q := 27) (q2 := 16) B (by omega) (by omega) d_M_checkOf_13 rfl rfl (fun h13 => ?_) (fun h13 => ?_)
        · refine ax_iincN (j := 1) (q := 30) B d_M_checkOf_27 rfl ii_1 (by decide) rfl ?_
          refine ax_goto (q := 5) B d_M_checkOf_30 rfl ?_
          first | (rw [if_pos h13] at h3; exact h3) | (rw [if_neg h13] at h3; exact h3)
        · refine ax_iload_n (q := 17) B d_M_checkOf_16 rfl rfl rfl ?_
          refine ax_aload_n (q := 18) B d_M_checkOf_17 rfl rfl rfl ?_
          refine ax_iload_n (q := 19) B d_M_checkOf_18 rfl rfl rfl ?_
          refine ax_iload_n (q := 20) B d_M_checkOf_19 rfl rfl rfl ?_
          refine ax_qV2 (q := 23) B cv_M_36 d_M_checkOf_20 (by assumption) (Nat.le_of_ble_eq_true rfl) (by decide) (k_wordAt hG e0 hp (by omega)) rfl ?_
          refine ax_top (hf j (by omega) h13).1 ?_
          refine ax_qS2 (q := 26) B cv_M_49 d_M_checkOf_23 (Nat.le_of_ble_eq_true rfl) (by decide) (k_crcw hG.1 h hc (hf j (by omega) h13).2) rfl ?_
          refine ax_istore_n (q := 27) B d_M_checkOf_26 rfl (by decide) rfl ?_
          refine ax_iincN (j := 1) (q := 30) B d_M_checkOf_27 rfl ii_1 (by decide) rfl ?_
          refine ax_goto (q := 5) B d_M_checkOf_30 rfl ?_
          first | (rw [if_pos h13] at h3; exact h3) | (rw [if_neg h13] at h3; exact h3)
  refine ax_ldc (v := nI 65535) (q := 2) B wc_M_48 d_M_checkOf_0 rfl ?_
  refine ax_istore_n (q := 3) B d_M_checkOf_2 rfl (by decide) rfl ?_
  refine ax_iconst (v := nI 0) (q := 4) B d_M_checkOf_3 ci_0 rfl ?_
  refine ax_istore_n (q := 5) B d_M_checkOf_4 rfl (by decide) rfl ?_
  exact loop 16 0 rfl
/-- the heap behind a sector's end -/
def hz_fin (h : aw_H) (k sp c : Nat) : aw_H := aw_u (aw_u (aw_u (aw_u h 3 k (nI c)) 2 (16 * k + 1) (nI (if sp = 1 then c ^^^ 1 else c))) 1 3 (nI (k + 1))) 1 4 (nI (sp - 1) + (-1))
theorem k_finish {l : Launch} {G : aw_G} (hG : gz G) {h : aw_H} {k sp : Nat} (e0 : h 1 0 = nI (aw_n G)) (e3 : h 1 3 = nI k) (e4 : h 1 4 = nI sp + (-1)) (hk : k < aw_n G) (hsp : sp ≤ 1001) {f : Nat → Nat} (hf : ∀ i, i < 16 → i ≠ 1 → h 2 (16 * k + i) = nI (f i) ∧ f i < 2 ^ 31) :
    aw_F l G 3 Y_M_finish [.inl (some 1)] h (fun v h' => v = .inr (bI (decide (sp ≠ 1))) ∧ h' = hz_fin h k sp (pz_chkN f 16)) := by
  refine aw_met hG.1 (by decide) (Nat.le_of_ble_eq_true rfl) (fun M hM B E => ?_)
  show aw_X M G 3 0 [some (.inl (some 1)), none, none] [] h
  have i1 := hG.is1
  have a3 := hG.ar3
  have r2 : aw_rM 1 2 = some 3 := rfl
  have n1 := hG.2.2.1
  have n2 := hG.2.2.2
  have hC := k_checkOf (l := M.2.1) hG e0 hk hf
  have hxl := pz_chkN_lt f 16
  generalize pz_chkN f 16 = x at hC hxl E ⊢
  have tail3 : ∀ t : Nat, t = (if sp = 1 then 1 else 0) → ∀ ls2, aw_X M G 3 89 [some (.inl (some 1)), some (.inr (nI t)), ls2] [] (hz_fin h k sp x) := by
    intro t ht ls2
    have ht2 : t ≤ 1 := by rw [ht]; split <;> omega
    refine ax_iload_n (q := 90) B d_M_finish_89 rfl rfl rfl ?_
    refine ax_ifN_ne (q := 97) (q2 := 93) B (by omega) d_M_finish_90 rfl rfl (fun h90 => ?_) (fun h90 => ?_)
    · refine ax_iconst (v := nI 0) (q := 98) B d_M_finish_97 ci_0 rfl ?_
      refine ax_zret B E (by first | exact bI_or _ | decide) d_M_finish_98 ?_
      first | exact ⟨_, rfl, by rw [decide_eq_false (by intro z; rw [if_neg z] at ht; omega)]; rfl, rfl⟩ | exact ⟨_, rfl, by rw [decide_eq_true (by intro z; rw [if_pos z] at ht; omega)]; rfl, rfl⟩
    · refine ax_iconst (v := nI 1) (q := 94) B d_M_finish_93 ci_1 rfl ?_
      refine ax_goto (q := 98) B d_M_finish_94 rfl ?_
      refine ax_zret B E (by first | exact bI_or _ | decide) d_M_finish_98 ?_
      first | exact ⟨_, rfl, by rw [decide_eq_false (by intro z; rw [if_neg z] at ht; omega)]; rfl, rfl⟩ | exact ⟨_, rfl, by rw [decide_eq_true (by intro z; rw [if_pos z] at ht; omega)]; rfl, rfl⟩
  have tail2 : ∀ t y : Nat, t = (if sp = 1 then 1 else 0) → y = (if sp = 1 then x ^^^ 1 else x) → ∀ ls2, aw_X M G 3 58 [some (.inl (some 1)), some (.inr (nI t)), ls2] [.inr (nI y), .inr (nI 1), .inl (some 1)] (aw_u h 3 k (nI x)) := by
    intro t y ht hy ls2
    have e01 : (aw_u h 3 k (nI x)) 1 0 = nI (aw_n G) := e0
    have e31 : (aw_u h 3 k (nI x)) 1 3 = nI k := e3
    refine ax_pV2 (q := 61) B cv_M_40 d_M_finish_58 (by assumption) (Nat.le_of_ble_eq_true rfl) (by decide) (k_put hG e01 e31 hk (by omega) _) rfl (fun h2 hh2 => ?_)
    have e32 : h2 1 3 = nI k := by rw [hh2]; exact e3
    have e42 : h2 1 4 = nI sp + (-1) := by rw [hh2]; exact e4
    refine ax_aload_n (q := 62) B d_M_finish_61 rfl rfl rfl ?_
    refine ax_dup (q := 63) B d_M_finish_62 rfl ?_
    refine ax_getN (q := 66) B fl_M_22 rfl d_M_finish_63 (by assumption) (by first | assumption | rfl) rfl ?_
    refine ax_iconst (v := nI 1) (q := 67) B d_M_finish_66 ci_1 rfl ?_
    first | refine ax_iaddN (q := 68) B d_M_finish_67 rfl ?_ | refine ax_iadd (q := 68) B d_M_finish_67 rfl ?_
    refine ax_putN (q := 71) B fp_M_22 d_M_finish_68 (by assumption) rfl ?_
    obtain ⟨h3, hh3⟩ : ∃ h3, h3 = aw_u h2 1 3 (nI (k + 1)) := ⟨_, rfl⟩
    rw [← hh3]
    have e43 : h3 1 4 = nI sp + (-1) := by rw [hh3]; exact e42
    have fin : aw_u h3 1 4 (nI (sp - 1) + (-1)) = hz_fin h k sp x := by
      unfold hz_fin
      rw [hh3, hh2, hy]
    rcases sp with _ | s
    · have e43 : h3 1 4 = -1 := e43
      refine ax_aload_n (q := 72) B d_M_finish_71 rfl rfl rfl ?_
      refine ax_getN (q := 75) B fl_M_25 rfl d_M_finish_72 (by assumption) (by first | assumption | rfl) rfl ?_
      refine ax_iconst (v := (-1)) (q := 76) B d_M_finish_75 ci_m1 rfl ?_
      refine ax_icmp_eq (q := 89) (q2 := 79) B d_M_finish_76 rfl rfl (fun h76 => ?_) (fun h76 => ?_)
      · rw [aw_u_id (show h3 1 4 = nI (0 - 1) + (-1) from e43)] at fin
        rw [fin]
        exact tail3 t ht _
      · exact absurd rfl h76
    · have e43 : h3 1 4 = nI s := e43.trans (pk_m1 s)
      refine ax_aload_n (q := 72) B d_M_finish_71 rfl rfl rfl ?_
      refine ax_getN (q := 75) B fl_M_25 rfl d_M_finish_72 (by assumption) (by first | assumption | rfl) rfl ?_
      refine ax_iconst (v := (-1)) (q := 76) B d_M_finish_75 ci_m1 rfl ?_
      refine ax_icmp_eq (q := 89) (q2 := 79) B d_M_finish_76 rfl rfl (fun h76 => ?_) (fun h76 => ?_)
      · first | exact absurd h76 (nI_nm1 (by omega)) | (rw [fin]; exact tail3 t ht _)
      · refine ax_aload_n (q := 80) B d_M_finish_79 rfl rfl rfl ?_
        refine ax_dup (q := 81) B d_M_finish_80 rfl ?_
        refine ax_getN (q := 84) B fl_M_25 rfl d_M_finish_81 (by assumption) (by first | assumption | rfl) rfl ?_
        refine ax_iconst (v := nI 1) (q := 85) B d_M_finish_84 ci_1 rfl ?_
        refine ax_isub (q := 86) B d_M_finish_85 rfl ?_
        refine ax_top (show nI s - nI 1 = nI (s + 1 - 1) + (-1) by rw [Nat.add_sub_cancel]; exact Int32.sub_eq_add_neg _ _) ?_
        refine ax_putN (q := 89) B fp_M_25 d_M_finish_86 (by assumption) rfl ?_
        first | exact absurd h76 (nI_nm1 (by omega)) | (rw [fin]; exact tail3 t ht _)
  have tail : ∀ t : Nat, t = (if sp = 1 then 1 else 0) → aw_X M G 3 26 [some (.inl (some 1)), some (.inr (nI t)), none] [] h := by
    intro t ht
    have ht2 : t ≤ 1 := by rw [ht]; split <;> omega
    refine ax_aload_n (q := 27) B d_M_finish_26 rfl rfl rfl ?_
    refine ax_aload_n (q := 28) B d_M_finish_27 rfl rfl rfl ?_
    refine ax_getN (q := 31) B fl_M_22 rfl d_M_finish_28 (by assumption) (by first | assumption | rfl) rfl ?_
    refine ax_qV1 (q := 34) B cv_M_44 d_M_finish_31 (by assumption) (Nat.le_of_ble_eq_true rfl) (by decide) hC rfl ?_
    refine ax_istore_n (q := 35) B d_M_finish_34 rfl (by decide) rfl ?_
    refine ax_aload_n (q := 36) B d_M_finish_35 rfl rfl rfl ?_
    refine ax_getP (q := 39) B fl_M_19 rfl d_M_finish_36 (by assumption) (by assumption) rfl ?_
    refine ax_aload_n (q := 40) B d_M_finish_39 rfl rfl rfl ?_
    refine ax_getN (q := 43) B fl_M_22 rfl d_M_finish_40 (by assumption) (by first | assumption | rfl) rfl ?_
    refine ax_iload_n (q := 44) B d_M_finish_43 rfl rfl rfl ?_
    refine ax_iastN (q := 45) B d_M_finish_44 (by assumption) rfl (by omega) (by omega) rfl ?_
    refine ax_aload_n (q := 46) B d_M_finish_45 rfl rfl rfl ?_
    refine ax_iconst (v := nI 1) (q := 47) B d_M_finish_46 ci_1 rfl ?_
    refine ax_iload_n (q := 48) B d_M_finish_47 rfl rfl rfl ?_
    refine ax_ifN_eq (q := 57) (q2 := 51) B (by omega) d_M_finish_48 rfl rfl (fun h48 => ?_) (fun h48 => ?_)
    · refine ax_iload_n (q := 58) B d_M_finish_57 rfl rfl rfl ?_
      first | exact tail2 t _ ht (by rw [if_neg (fun z => by rw [if_pos z] at ht; omega)]) _ | exact tail2 t _ ht (by rw [if_pos (Decidable.byContradiction (fun z => by rw [if_neg z] at ht; omega))]) _
    · refine ax_iload_n (q := 52) B d_M_finish_51 rfl rfl rfl ?_
      refine ax_iconst (v := nI 1) (q := 53) B d_M_finish_52 ci_1 rfl ?_
      first | refine ax_ixorN (q := 54) B d_M_finish_53 rfl ?_ | refine ax_ixor (q := 54) B d_M_finish_53 rfl ?_
      refine ax_goto (q := 58) B d_M_finish_54 rfl ?_
      first | exact tail2 t _ ht (by rw [if_neg (fun z => by rw [if_pos z] at ht; omega)]) _ | exact tail2 t _ ht (by rw [if_pos (Decidable.byContradiction (fun z => by rw [if_neg z] at ht; omega))]) _
  rcases sp with _ | s
  · have e4 : h 1 4 = -1 := e4
    refine ax_aload_n (q := 1) B d_M_finish_0 rfl rfl rfl ?_
    refine ax_getN (q := 4) B fl_M_22 rfl d_M_finish_1 (by assumption) (by first | assumption | rfl) rfl ?_
    refine ax_aload_n (q := 5) B d_M_finish_4 rfl rfl rfl ?_
    refine ax_getN (q := 8) B fl_M_9 rfl d_M_finish_5 (by assumption) (by first | assumption | rfl) rfl ?_
    refine ax_icmpN_lt (q := 13) (q2 := 11) B (by omega) (by omega) d_M_finish_8 rfl rfl (fun h8 => ?_) (fun h8 => ?_)
    · refine ax_aload_n (q := 14) B d_M_finish_13 rfl rfl rfl ?_
      refine ax_getN (q := 17) B fl_M_25 rfl d_M_finish_14 (by assumption) (by first | assumption | rfl) rfl ?_
      refine ax_if_ne (q := 24) (q2 := 20) B d_M_finish_17 rfl rfl (fun h17 => ?_) (fun h17 => ?_)
      · refine ax_iconst (v := nI 0) (q := 25) B d_M_finish_24 ci_0 rfl ?_
        refine ax_istore_n (q := 26) B d_M_finish_25 rfl (by decide) rfl ?_
        exact tail 0 rfl
      · exact absurd h17 (by decide)
    · omega
  · have e4 : h 1 4 = nI s := e4.trans (pk_m1 s)
    refine ax_aload_n (q := 1) B d_M_finish_0 rfl rfl rfl ?_
    refine ax_getN (q := 4) B fl_M_22 rfl d_M_finish_1 (by assumption) (by first | assumption | rfl) rfl ?_
    refine ax_aload_n (q := 5) B d_M_finish_4 rfl rfl rfl ?_
    refine ax_getN (q := 8) B fl_M_9 rfl d_M_finish_5 (by assumption) (by first | assumption | rfl) rfl ?_
    refine ax_icmpN_lt (q := 13) (q2 := 11) B (by omega) (by omega) d_M_finish_8 rfl rfl (fun h8 => ?_) (fun h8 => ?_)
    · refine ax_aload_n (q := 14) B d_M_finish_13 rfl rfl rfl ?_
      refine ax_getN (q := 17) B fl_M_25 rfl d_M_finish_14 (by assumption) (by first | assumption | rfl) rfl ?_
      refine ax_ifN_ne (q := 24) (q2 := 20) B (by omega) d_M_finish_17 rfl rfl (fun h17 => ?_) (fun h17 => ?_)
      · refine ax_iconst (v := nI 0) (q := 25) B d_M_finish_24 ci_0 rfl ?_
        refine ax_istore_n (q := 26) B d_M_finish_25 rfl (by decide) rfl ?_
        first | exact tail 0 (by rw [if_neg (by omega)]) | exact tail 1 (by rw [if_pos (by omega)])
      · refine ax_iconst (v := nI 1) (q := 21) B d_M_finish_20 ci_1 rfl ?_
        refine ax_goto (q := 25) B d_M_finish_21 rfl ?_
        refine ax_istore_n (q := 26) B d_M_finish_25 rfl (by decide) rfl ?_
        first | exact tail 0 (by rw [if_neg (by omega)]) | exact tail 1 (by rw [if_pos (by omega)])
    · omega
