/- SessionTables' own questions -/
/-- the medium: k sectors written, words w, stop + 1 = sp -/
def mz (G : aw_G) (k sp : Nat) (w : Nat → Nat) (h : aw_H) : Prop := wz G w h ∧ h 1 3 = nI k ∧ h 1 4 = nI sp + (-1) ∧ k ≤ aw_n G ∧ sp ≤ 1001 ∧ ∀ p, p < k → h 3 p = nI (pz_chk w p)
/-- tables name what lies before them, and can be read -/
def iz (k : Nat) (w : Nat → Nat) : Prop := ∀ p, p < k → w (16 * p) = 3 → ∀ i, i < 8 → pz_nm w p i ≤ p ∧ (pz_nm w p i = 0 ∨ w (16 * (pz_nm w p i - 1) + 5) ≤ 10)
theorem iz.rz {G : aw_G} {k p : Nat} {w : Nat → Nat} (hi : iz k w) (hk : k ≤ aw_n G) (hp : p < k) (h3 : w (16 * p) = 3) : rz G w p := ⟨by omega, fun i hi8 => by
  obtain ⟨h1, h2⟩ := hi p hp h3 i hi8
  rcases h2 with h2 | h2
  · exact Or.inl h2
  · exact Or.inr ⟨by omega, h2⟩⟩
theorem dec_nI {a b : Nat} (ha : a < 2 ^ 31) (hb : b < 2 ^ 31) : decide (nI a = nI b) = (a == b) := by
  by_cases h : a = b
  · subst h; simp
  · rw [pz_beq_ne h]; exact decide_eq_false (fun z => h ((nI_eq ha hb).mp z))
theorem k_good {l : Launch} {G : aw_G} (hG : gz G) {h : aw_H} {k sp : Nat} {w : Nat → Nat} (hm : mz G k sp w h) {p : Nat} (hp : p < k) : aw_I l G 2 Y_M_isGood [.inl (some 1), .inr (nI p)] h (.inr (bI (pz_good w p))) := by
  obtain ⟨⟨e0, hw⟩, e3, -, hk, -, hc⟩ := hm
  have h1 := k_isGood (l := l) hG e0 e3 hk hp
  obtain ⟨h2, h3⟩ := hw (16 * p + 1) (by omega)
  rw [h2, hc p hp, dec_nI (by omega) (by have := pz_chk_lt w p; omega)] at h1
  exact h1
theorem k_word {l : Launch} {G : aw_G} (hG : gz G) {h : aw_H} {w : Nat → Nat} (hw : wz G w h) {p i : Nat} (hp : p < aw_n G) (hi : i < 16) : aw_I l G 1 Y_M_wordAt [.inl (some 1), .inr (nI p), .inr (nI i)] h (.inr (nI (w (16 * p + i)))) := by
  have h1 := k_wordAt (l := l) hG hw.1 hp hi
  rw [(hw.2 (16 * p + i) (by omega)).1] at h1
  exact h1
theorem k_isName {l : Launch} {G : aw_G} (hG : aw_ok G) (h : aw_H) (x : Int32) : aw_I l G 0 Y_S_isName [.inr x] h (.inr (bI (pz_small x 100))) := by
  refine aw_met hG (by decide) (Nat.le_of_ble_eq_true rfl) (fun M hM B E => ?_)
  show aw_X M G 1 0 [some (.inr x)] [] h
  refine ax_iload_n (q := 1) B d_S_isName_0 rfl rfl rfl ?_
  refine ax_if_lt (q := 14) (q2 := 4) B d_S_isName_1 rfl rfl (fun h1 => ?_) (fun h1 => ?_)
  · refine ax_iconst (v := nI 0) (q := 15) B d_S_isName_14 ci_0 rfl ?_
    refine ax_zret B E (by first | exact bI_or _ | decide) d_S_isName_15 ?_
    first | exact ⟨by rw [pz_small_1 h1]; rfl, rfl⟩ | exact ⟨by rw [pz_small_2 h7]; rfl, rfl⟩ | exact ⟨by rw [pz_small_t h1 h7]; rfl, rfl⟩
  · refine ax_iload_n (q := 5) B d_S_isName_4 rfl rfl rfl ?_
    refine ax_bipush (v := nI 100) (q := 7) B d_S_isName_5 cb_100 rfl ?_
    refine ax_icmp_ge (q := 14) (q2 := 10) B d_S_isName_7 rfl rfl (fun h7 => ?_) (fun h7 => ?_)
    · refine ax_iconst (v := nI 0) (q := 15) B d_S_isName_14 ci_0 rfl ?_
      refine ax_zret B E (by first | exact bI_or _ | decide) d_S_isName_15 ?_
      first | exact ⟨by rw [pz_small_1 h1]; rfl, rfl⟩ | exact ⟨by rw [pz_small_2 h7]; rfl, rfl⟩ | exact ⟨by rw [pz_small_t h1 h7]; rfl, rfl⟩
    · refine ax_iconst (v := nI 1) (q := 11) B d_S_isName_10 ci_1 rfl ?_
      refine ax_goto (q := 15) B d_S_isName_11 rfl ?_
      refine ax_zret B E (by first | exact bI_or _ | decide) d_S_isName_15 ?_
      first | exact ⟨by rw [pz_small_1 h1]; rfl, rfl⟩ | exact ⟨by rw [pz_small_2 h7]; rfl, rfl⟩ | exact ⟨by rw [pz_small_t h1 h7]; rfl, rfl⟩
theorem pz_ents_f {w : Nat → Nat} {p n : Nat} (h : pz_ents w p n = false) : ∀ m, pz_ents w p (n + m) = false
  | 0 => h
  | m + 1 => by
    show (pz_ents w p (n + m) && _) = false
    rw [pz_ents_f h m, Bool.false_and]
theorem k_isValid {l : Launch} {G : aw_G} (hG : gz G) {h : aw_H} {k sp : Nat} {w : Nat → Nat} (hm : mz G k sp w h) (hi : iz k w) {p : Nat} (hp : p < k) : aw_I l G 3 Y_S_isValidTable [.inl (some 0), .inr (nI p)] h (.inr (bI (pz_valid w p))) := by
  refine aw_met hG.1 (by decide) (Nat.le_of_ble_eq_true rfl) (fun M hM B E => ?_)
  show aw_X M G 4 0 [some (.inl (some 0)), some (.inr (nI p)), none, none] [] h
  have i0 := hG.is0
  have i1 := hG.is1
  have r0 : aw_rM 0 0 = some 1 := rfl
  have n2 := hG.2.2.2
  have hm' := hm
  obtain ⟨hw, e3, -, hk, -, hc⟩ := hm
  have hwl : ∀ i, i < 16 → w (16 * p + i) < 65536 := fun i hi => (hw.2 _ (by omega)).2
  have hw0 := hwl 0 (by omega)
  have w0 : w (16 * p + 0) = w (16 * p) := rfl
  have loop : w (16 * p) = 3 → pz_good w p = true → ∀ m j (u : Option aw_V), j + m = 8 → pz_ents w p j = true → aw_X M G 4 28 [some (.inl (some 0)), some (.inr (nI p)), some (.inr (nI j)), u] [] h := by
    intro h3 hg m
    have hv : pz_valid w p = pz_ents w p 8 := by unfold pz_valid; rw [h3, hg]; simp
    rw [hv] at E
    induction m with
    | zero =>
      intro j u hj hz
      have hj : j = 8 := by omega
      subst hj
      refine ax_iload_n (q := 29) B d_S_isValidTable_28 rfl rfl rfl ?_
      refine ax_bipush (v := nI 8) (q := 31) B d_S_isValidTable_29 cb_8 rfl ?_
      refine ax_icmpN_ge (q := 71) (q2 := 34) B (by omega) (by omega) d_S_isValidTable_31 rfl rfl (fun h31 => ?_) (fun h31 => ?_)
      · refine ax_iconst (v := nI 1) (q := 72) B d_S_isValidTable_71 ci_1 rfl ?_
        refine ax_zret B E (by first | exact bI_or _ | decide) d_S_isValidTable_72 ?_
        exact ⟨by rw [hz]; rfl, rfl⟩
      · omega
    | succ m ih =>
      intro j u hj hz
      obtain ⟨hn, -⟩ := hi p hp h3 j (by omega)
      have ej : nI (w (16 * p + (4 + j))) = nI (pz_nm w p j) := by unfold pz_nm; rw [Nat.add_assoc]
      have hs : pz_ents w p (j + 1) = (pz_nm w p j == 0 || pz_good w (pz_nm w p j - 1)) := by
        show (pz_ents w p j && _) = _
        rw [hz, Bool.true_and]
      refine ax_iload_n (q := 29) B d_S_isValidTable_28 rfl rfl rfl ?_
      refine ax_bipush (v := nI 8) (q := 31) B d_S_isValidTable_29 cb_8 rfl ?_
      refine ax_icmpN_ge (q := 71) (q2 := 34) B (by omega) (by omega) d_S_isValidTable_31 rfl rfl (fun h31 => ?_) (fun h31 => ?_)
      · omega
      · refine ax_aload_n (q := 35) B d_S_isValidTable_34 rfl rfl rfl ?_
        refine ax_getP (q := 38) B fl_S_23 rfl d_S_isValidTable_35 (by assumption) (by assumption) rfl ?_
        refine ax_iload_n (q := 39) B d_S_isValidTable_38 rfl rfl rfl ?_
        refine ax_iconst (v := nI 4) (q := 40) B d_S_isValidTable_39 ci_4 rfl ?_
        refine ax_iload_n (q := 41) B d_S_isValidTable_40 rfl rfl rfl ?_
        first | refine ax_iaddN (q := 42) B d_S_isValidTable_41 rfl ?_ | refine ax_iadd (q := 42) B d_S_isValidTable_41 rfl ?_
        refine ax_qV2 (q := 45) B cv_S_166 d_S_isValidTable_42 (by assumption) (Nat.le_of_ble_eq_true rfl) (by decide) (k_word hG hw (by omega) (by omega)) rfl ?_
        refine ax_top ej ?_
        refine ax_istore_n (q := 46) B d_S_isValidTable_45 rfl (by decide) rfl ?_
        refine ax_iload_n (q := 47) B d_S_isValidTable_46 rfl rfl rfl ?_
        refine ax_ifN_eq (q := 65) (q2 := 50) B (by omega) d_S_isValidTable_47 rfl rfl (fun h47 => ?_) (fun h47 => ?_)
        · refine ax_iincN (j := 1) (q := 68) B d_S_isValidTable_65 rfl ii_1 (by decide) rfl ?_
          refine ax_goto (q := 28) B d_S_isValidTable_68 rfl ?_
          refine ih (j + 1) _ (by omega) ?_
          rw [hs]
          first | (rw [h60]; simp; done) | (rw [h47]; simp)
        · refine ax_aload_n (q := 51) B d_S_isValidTable_50 rfl rfl rfl ?_
          refine ax_getP (q := 54) B fl_S_23 rfl d_S_isValidTable_51 (by assumption) (by assumption) rfl ?_
          refine ax_iload_n (q := 55) B d_S_isValidTable_54 rfl rfl rfl ?_
          refine ax_iconst (v := nI 1) (q := 56) B d_S_isValidTable_55 ci_1 rfl ?_
          refine ax_isubN (q := 57) B (by omega) d_S_isValidTable_56 rfl ?_
          refine ax_qV1 (q := 60) B cv_S_163 d_S_isValidTable_57 (by assumption) (Nat.le_of_ble_eq_true rfl) (by decide) (k_good hG hm' (by omega)) rfl ?_
          refine ax_ifZ_ne (q := 65) (q2 := 63) B d_S_isValidTable_60 rfl rfl (fun h60 => ?_) (fun h60 => ?_)
          · refine ax_iincN (j := 1) (q := 68) B d_S_isValidTable_65 rfl ii_1 (by decide) rfl ?_
            refine ax_goto (q := 28) B d_S_isValidTable_68 rfl ?_
            refine ih (j + 1) _ (by omega) ?_
            rw [hs]
            first | (rw [h60]; simp; done) | (rw [h47]; simp)
          · refine ax_iconst (v := nI 0) (q := 64) B d_S_isValidTable_63 ci_0 rfl ?_
            refine ax_zret B E (by first | exact bI_or _ | decide) d_S_isValidTable_64 ?_
            exact ⟨by rw [show (8 : Nat) = j + 1 + m by omega, pz_ents_f (by rw [hs, h60, pz_beq_ne (by omega)]; rfl) m]; rfl, rfl⟩
  refine ax_aload_n (q := 1) B d_S_isValidTable_0 rfl rfl rfl ?_
  refine ax_getP (q := 4) B fl_S_23 rfl d_S_isValidTable_1 (by assumption) (by assumption) rfl ?_
  refine ax_iload_n (q := 5) B d_S_isValidTable_4 rfl rfl rfl ?_
  refine ax_iconst (v := nI 0) (q := 6) B d_S_isValidTable_5 ci_0 rfl ?_
  refine ax_qV2 (q := 9) B cv_S_166 d_S_isValidTable_6 (by assumption) (Nat.le_of_ble_eq_true rfl) (by decide) (k_word hG hw (by omega) (by omega)) rfl ?_
  refine ax_iconst (v := nI 3) (q := 10) B d_S_isValidTable_9 ci_3 rfl ?_
  refine ax_icmpN_ne (q := 24) (q2 := 13) B (by omega) (by omega) d_S_isValidTable_10 rfl rfl (fun h10 => ?_) (fun h10 => ?_)
  · refine ax_iconst (v := nI 0) (q := 25) B d_S_isValidTable_24 ci_0 rfl ?_
    refine ax_zret B E (by first | exact bI_or _ | decide) d_S_isValidTable_25 ?_
    first | exact ⟨by unfold pz_valid; rw [h21]; simp; rfl, rfl⟩ | exact ⟨by unfold pz_valid; rw [show (w (16 * p) == 3) = false from pz_beq_ne h10]; rfl, rfl⟩
  · refine ax_aload_n (q := 14) B d_S_isValidTable_13 rfl rfl rfl ?_
    refine ax_getP (q := 17) B fl_S_23 rfl d_S_isValidTable_14 (by assumption) (by assumption) rfl ?_
    refine ax_iload_n (q := 18) B d_S_isValidTable_17 rfl rfl rfl ?_
    refine ax_qV1 (q := 21) B cv_S_163 d_S_isValidTable_18 (by assumption) (Nat.le_of_ble_eq_true rfl) (by decide) (k_good hG hm' hp) rfl ?_
    refine ax_ifZ_ne (q := 26) (q2 := 24) B d_S_isValidTable_21 rfl rfl (fun h21 => ?_) (fun h21 => ?_)
    · refine ax_iconst (v := nI 0) (q := 27) B d_S_isValidTable_26 ci_0 rfl ?_
      refine ax_istore_n (q := 28) B d_S_isValidTable_27 rfl (by decide) rfl ?_
      exact loop h10 h21 8 0 _ rfl rfl
    · refine ax_iconst (v := nI 0) (q := 25) B d_S_isValidTable_24 ci_0 rfl ?_
      refine ax_zret B E (by first | exact bI_or _ | decide) d_S_isValidTable_25 ?_
      first | exact ⟨by unfold pz_valid; rw [h21]; simp; rfl, rfl⟩ | exact ⟨by unfold pz_valid; rw [show (w (16 * p) == 3) = false from pz_beq_ne h10]; rfl, rfl⟩
theorem k_newestTable {l : Launch} {G : aw_G} (hG : gz G) {h : aw_H} {k sp : Nat} {w : Nat → Nat} (hm : mz G k sp w h) (hi : iz k w) : aw_I l G 4 Y_S_newestTable [.inl (some 0)] h (.inr (oI (pz_newest w k))) := by
  refine aw_met hG.1 (by decide) (Nat.le_of_ble_eq_true rfl) (fun M hM B E => ?_)
  show aw_X M G 2 0 [some (.inl (some 0)), none] [] h
  have i0 := hG.is0
  have i1 := hG.is1
  have r0 : aw_rM 0 0 = some 1 := rfl
  have n2 := hG.2.2.2
  have hm' := hm
  obtain ⟨hw, e3, -, hk, -, hc⟩ := hm
  have loop : ∀ j, j ≤ k → pz_newest w k = pz_newest w j → aw_X M G 2 10 [some (.inl (some 0)), some (.inr (nI j + (-1)))] [] h := by
    intro j
    induction j with
    | zero =>
      intro _ he
      rw [he] at E
      refine ax_iload_n (q := 11) B d_S_newestTable_10 rfl rfl rfl ?_
      refine ax_if_lt (q := 30) (q2 := 14) B d_S_newestTable_11 rfl rfl (fun h11 => ?_) (fun h11 => ?_)
      · refine ax_iconst (v := (-1)) (q := 31) B d_S_newestTable_30 ci_m1 rfl ?_
        refine ax_iret B E d_S_newestTable_31 ?_
        exact ⟨rfl, rfl⟩
      · exact absurd (show (nI 0 + (-1) : Int32) < 0 by decide) h11
    | succ j ih =>
      intro hj he
      have hs : pz_newest w (j + 1) = if pz_valid w j = true then some j else pz_newest w j := rfl
      rw [pk_m1]
      refine ax_iload_n (q := 11) B d_S_newestTable_10 rfl rfl rfl ?_
      refine ax_ifN_lt (q := 30) (q2 := 14) B (by omega) d_S_newestTable_11 rfl rfl ?_
      refine ax_aload_n (q := 15) B d_S_newestTable_14 rfl rfl rfl ?_
      refine ax_iload_n (q := 16) B d_S_newestTable_15 rfl rfl rfl ?_
      refine ax_qV1 (q := 19) B cv_S_149 d_S_newestTable_16 (by assumption) (Nat.le_of_ble_eq_true rfl) (by decide) (k_isValid hG hm' hi (by omega)) rfl ?_
      refine ax_ifZ_eq (q := 24) (q2 := 22) B d_S_newestTable_19 rfl rfl (fun h19 => ?_) (fun h19 => ?_)
      · refine ax_iinc (v := nI j + (-1)) (q := 27) B d_S_newestTable_24 rfl rfl (by decide) rfl ?_
        refine ax_goto (q := 10) B d_S_newestTable_27 rfl ?_
        exact ih (by omega) (by rw [he, hs, if_neg (by rw [h19]; decide)])
      · refine ax_iload_n (q := 23) B d_S_newestTable_22 rfl rfl rfl ?_
        refine ax_iret B E d_S_newestTable_23 ?_
        exact ⟨by rw [he, hs, if_pos h19]; rfl, rfl⟩
  refine ax_aload_n (q := 1) B d_S_newestTable_0 rfl rfl rfl ?_
  refine ax_getP (q := 4) B fl_S_23 rfl d_S_newestTable_1 (by assumption) (by assumption) rfl ?_
  refine ax_getN (q := 7) B fl_S_84 rfl d_S_newestTable_4 (by assumption) (by first | assumption | rfl) rfl ?_
  refine ax_iconst (v := nI 1) (q := 8) B d_S_newestTable_7 ci_1 rfl ?_
  refine ax_isub (q := 9) B d_S_newestTable_8 rfl ?_
  refine ax_top (show nI k - nI 1 = nI k + (-1) from Int32.sub_eq_add_neg _ _) ?_
  refine ax_istore_n (q := 10) B d_S_newestTable_9 rfl (by decide) rfl ?_
  exact loop k (Nat.le_refl k) rfl
theorem k_newestNumber {l : Launch} {G : aw_G} (hG : gz G) {h : aw_H} {k sp : Nat} {w : Nat → Nat} (hm : mz G k sp w h) (hi : iz k w) : aw_I l G 5 Y_S_newestNumber [.inl (some 0)] h (.inr (nI (pz_num w k))) := by
  refine aw_met hG.1 (by decide) (Nat.le_of_ble_eq_true rfl) (fun M hM B E => ?_)
  show aw_X M G 2 0 [some (.inl (some 0)), none] [] h
  have i0 := hG.is0
  have i1 := hG.is1
  have r0 : aw_rM 0 0 = some 1 := rfl
  have n2 := hG.2.2.2
  have hC := k_newestTable (l := M.2.1) hG hm hi
  have hw := hm.1
  have hk := hm.2.2.2.1
  refine ax_aload_n (q := 1) B d_S_newestNumber_0 rfl rfl rfl ?_
  refine ax_qV0 (q := 4) B cv_S_179 d_S_newestNumber_1 (by assumption) (Nat.le_of_ble_eq_true rfl) (by decide) hC rfl ?_
  unfold pz_num at E
  cases hx : pz_newest w k with
  | none =>
    rw [hx] at E
    refine ax_istore_n (q := 5) B d_S_newestNumber_4 rfl (by decide) rfl ?_
    refine ax_iload_n (q := 6) B d_S_newestNumber_5 rfl rfl rfl ?_
    refine ax_iconst (v := (-1)) (q := 7) B d_S_newestNumber_6 ci_m1 rfl ?_
    refine ax_icmp_ne (q := 14) (q2 := 10) B d_S_newestNumber_7 rfl rfl (fun h7 => ?_) (fun h7 => ?_)
    · exact absurd rfl h7
    · refine ax_iconst (v := nI 0) (q := 11) B d_S_newestNumber_10 ci_0 rfl ?_
      refine ax_goto (q := 23) B d_S_newestNumber_11 rfl ?_
      refine ax_iret B E d_S_newestNumber_23 ?_
      exact ⟨rfl, rfl⟩
  | some p =>
    rw [hx] at E
    have hp := (pz_newest_lt k hx).1
    show aw_X M G 2 4 [some (.inl (some 0)), none] [.inr (nI p)] h
    refine ax_istore_n (q := 5) B d_S_newestNumber_4 rfl (by decide) rfl ?_
    refine ax_iload_n (q := 6) B d_S_newestNumber_5 rfl rfl rfl ?_
    refine ax_iconst (v := (-1)) (q := 7) B d_S_newestNumber_6 ci_m1 rfl ?_
    refine ax_icmp_ne (q := 14) (q2 := 10) B d_S_newestNumber_7 rfl rfl (fun h7 => ?_) (fun h7 => ?_)
    · refine ax_aload_n (q := 15) B d_S_newestNumber_14 rfl rfl rfl ?_
      refine ax_getP (q := 18) B fl_S_23 rfl d_S_newestNumber_15 (by assumption) (by assumption) rfl ?_
      refine ax_iload_n (q := 19) B d_S_newestNumber_18 rfl rfl rfl ?_
      refine ax_iconst (v := nI 3) (q := 20) B d_S_newestNumber_19 ci_3 rfl ?_
      refine ax_qV2 (q := 23) B cv_S_166 d_S_newestNumber_20 (by assumption) (Nat.le_of_ble_eq_true rfl) (by decide) (k_word hG hw (by omega) (by omega)) rfl ?_
      refine ax_iret B E d_S_newestNumber_23 ?_
      exact ⟨rfl, rfl⟩
    · exact absurd h7 (nI_nm1 (by omega))
theorem pz_tabAt_s {w : Nat → Nat} {a : Int32} {p : Nat} (h : pz_tabAt w a p = none) : pz_tabAt w a (p + 1) = if pz_valid w p = true ∧ nI (pz_tabs w (p + 1)) = a then some p else none := by
  show (match pz_tabAt w a p with | some q => some q | none => if pz_valid w p = true ∧ nI (pz_tabs w (p + 1)) = a then some p else none) = _
  rw [h]
theorem pz_tabAt_m {w : Nat → Nat} {a : Int32} {p q : Nat} (h : pz_tabAt w a p = some q) : ∀ m, pz_tabAt w a (p + m) = some q
  | 0 => h
  | m + 1 => by
    show (match pz_tabAt w a (p + m) with | some q => some q | none => if pz_valid w (p + m) = true ∧ nI (pz_tabs w (p + m + 1)) = a then some (p + m) else none) = _
    rw [pz_tabAt_m h m]
theorem k_tablePlace {l : Launch} {G : aw_G} (hG : gz G) {h : aw_H} {k sp : Nat} {w : Nat → Nat} (hm : mz G k sp w h) (hi : iz k w) (x : Int32) : aw_I l G 4 Y_S_tablePlace [.inl (some 0), .inr x] h (.inr (oI (pz_tabAt w x k))) := by
  refine aw_met hG.1 (by decide) (Nat.le_of_ble_eq_true rfl) (fun M hM B E => ?_)
  show aw_X M G 4 0 [some (.inl (some 0)), some (.inr x), none, none] [] h
  have i0 := hG.is0
  have i1 := hG.is1
  have r0 : aw_rM 0 0 = some 1 := rfl
  have n2 := hG.2.2.2
  have hm' := hm
  obtain ⟨hw, e3, -, hk, -, hc⟩ := hm
  have loop : ∀ m j, j + m = k → pz_tabAt w x j = none → aw_X M G 4 4 [some (.inl (some 0)), some (.inr x), some (.inr (nI (pz_tabs w j))), some (.inr (nI j))] [] h := by
    intro m
    induction m with
    | zero =>
      intro j hj hz
      have hj : j = k := by omega
      subst hj
      refine ax_iload_n (q := 5) B d_S_tablePlace_4 rfl rfl rfl ?_
      refine ax_aload_n (q := 6) B d_S_tablePlace_5 rfl rfl rfl ?_
      refine ax_getP (q := 9) B fl_S_23 rfl d_S_tablePlace_6 (by assumption) (by assumption) rfl ?_
      refine ax_getN (q := 12) B fl_S_84 rfl d_S_tablePlace_9 (by assumption) (by first | assumption | rfl) rfl ?_
      refine ax_icmpN_ge (q := 39) (q2 := 15) B (by omega) (by omega) d_S_tablePlace_12 rfl rfl (fun h12 => ?_) (fun h12 => ?_)
      · refine ax_iconst (v := (-1)) (q := 40) B d_S_tablePlace_39 ci_m1 rfl ?_
        refine ax_iret B E d_S_tablePlace_40 ?_
        exact ⟨by rw [hz]; rfl, rfl⟩
      · omega
    | succ m ih =>
      intro j hj hz
      have hs := pz_tabAt_s hz
      have h3 := ih (j + 1) (by omega)
      have ht : pz_tabs w (j + 1) = pz_tabs w j + (if pz_valid w j = true then 1 else 0) := rfl
      refine ax_iload_n (q := 5) B d_S_tablePlace_4 rfl rfl rfl ?_
      refine ax_aload_n (q := 6) B d_S_tablePlace_5 rfl rfl rfl ?_
      refine ax_getP (q := 9) B fl_S_23 rfl d_S_tablePlace_6 (by assumption) (by assumption) rfl ?_
      refine ax_getN (q := 12) B fl_S_84 rfl d_S_tablePlace_9 (by assumption) (by first | assumption | rfl) rfl ?_
      refine ax_icmpN_ge (q := 39) (q2 := 15) B (by omega) (by omega) d_S_tablePlace_12 rfl rfl (fun h12 => ?_) (fun h12 => ?_)
      · omega
      · refine ax_aload_n (q := 16) B d_S_tablePlace_15 rfl rfl rfl ?_
        refine ax_iload_n (q := 17) B d_S_tablePlace_16 rfl rfl rfl ?_
        refine ax_qV1 (q := 20) B cv_S_149 d_S_tablePlace_17 (by assumption) (Nat.le_of_ble_eq_true rfl) (by decide) (k_isValid hG hm' hi (by omega)) rfl ?_
        refine ax_ifZ_eq (q := 33) (q2 := 23) B d_S_tablePlace_20 rfl rfl (fun h20 => ?_) (fun h20 => ?_)
        · refine ax_iincN (j := 1) (q := 36) B d_S_tablePlace_33 rfl ii_1 (by decide) rfl ?_
          refine ax_goto (q := 4) B d_S_tablePlace_36 rfl ?_
          rw [ht, h20] at h3 hs
          first | exact h3 (by rw [hs]; exact if_neg (fun z => h28 z.2)) | exact h3 (by rw [hs]; exact if_neg (fun z => Bool.noConfusion z.1))
        · refine ax_iincN (j := 1) (q := 26) B d_S_tablePlace_23 rfl ii_1 (by decide) rfl ?_
          refine ax_iload_n (q := 27) B d_S_tablePlace_26 rfl rfl rfl ?_
          refine ax_iload_n (q := 28) B d_S_tablePlace_27 rfl rfl rfl ?_
          refine ax_icmp_ne (q := 33) (q2 := 31) B d_S_tablePlace_28 rfl rfl (fun h28 => ?_) (fun h28 => ?_)
          · refine ax_iincN (j := 1) (q := 36) B d_S_tablePlace_33 rfl ii_1 (by decide) rfl ?_
            refine ax_goto (q := 4) B d_S_tablePlace_36 rfl ?_
            rw [ht, h20] at h3 hs
            first | exact h3 (by rw [hs]; exact if_neg (fun z => h28 z.2)) | exact h3 (by rw [hs]; exact if_neg (fun z => Bool.noConfusion z.1))
          · refine ax_iload_n (q := 32) B d_S_tablePlace_31 rfl rfl rfl ?_
            refine ax_iret B E d_S_tablePlace_32 ?_
            exact ⟨by rw [show k = j + 1 + m by omega, pz_tabAt_m (by rw [hs]; exact if_pos ⟨h20, by rw [ht, h20]; exact h28⟩) m]; rfl, rfl⟩
  refine ax_iconst (v := nI 0) (q := 1) B d_S_tablePlace_0 ci_0 rfl ?_
  refine ax_istore_n (q := 2) B d_S_tablePlace_1 rfl (by decide) rfl ?_
  refine ax_iconst (v := nI 0) (q := 3) B d_S_tablePlace_2 ci_0 rfl ?_
  refine ax_istore_n (q := 4) B d_S_tablePlace_3 rfl (by decide) rfl ?_
  exact loop k 0 (by omega) rfl
