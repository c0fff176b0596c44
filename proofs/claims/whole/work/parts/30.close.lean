theorem m1p (a : Nat) : nI a + (-1) + nI 1 = nI a := by
  have h := pk_m1 a
  rw [Int32.add_assoc, show ((-1 : Int32) + nI 1) = 0 by decide, Int32.add_zero]
theorem k_writeTable {l : Launch} {G : aw_G} (hG : gz G) {h : aw_H} {k sp : Nat} {w : Nat → Nat} (hm : mz G k sp w h) {t : pz_T} (hT : hz_T 4 t h) (hk : k < aw_n G) (h0 : ∀ x, 16 * k ≤ x → w x = 0) (hen : ∀ i, i < 8 → pz_en t i < 65536) {num : Nat} (hnum : num < 65536) :
    aw_F l G 4 Y_S_writeTable [.inl (some 0), .inr (nI num)] h (fun v h' => v = .inr (bI (decide (sp ≠ 1))) ∧ mz G (k + 1) (sp - 1) (pz_sec w k (pz_table k num (pz_en t)) (sp == 1)) h' ∧ ∀ q, 4 ≤ q → h' q = h q) := by
  refine aw_met hG.1 (by decide) (Nat.le_of_ble_eq_true rfl) (fun M hM B E => ?_)
  show aw_X M G 3 0 [some (.inl (some 0)), some (.inr (nI num)), none] [] h
  have i0 := hG.is0
  have i1 := hG.is1
  have i4 := hG.t4.2.1
  have a5 := hG.t4.2.2.2.1
  have r4 := hG.t4.2.2.1
  have r0 : aw_rM 0 0 = some 1 := rfl
  have r1 : aw_rM 0 1 = some 4 := rfl
  have n2 := hG.2.2.2
  have loop : ∀ m j (f : aw_H) (g : Nat → Nat), j + m = 8 → dz G k sp w g f → (∀ x, x < 16 → x ≠ 1 → g x = if 4 ≤ x ∧ 4 + j ≤ x then 0 else pz_table k num (pz_en t) x) → (∀ q, q ≠ 2 → f q = h q) → aw_X M G 3 11 [some (.inl (some 0)), some (.inr (nI num)), some (.inr (nI j))] [] f := by
    intro m
    induction m with
    | zero =>
      intro j f g hj hd hg hf
      have hj : j = 8 := by omega
      subst hj
      have hg2 : ∀ x, x < 16 → x ≠ 1 → g x = pz_table k num (pz_en t) x := fun x hx h1 => by
        rw [hg x hx h1]
        by_cases h12 : 4 ≤ x ∧ 4 + 8 ≤ x
        · rw [if_pos h12]
          unfold pz_table
          rw [if_neg (by omega), if_neg (by omega), if_neg (by omega), if_neg (by omega)]
        · rw [if_neg h12]
      rw [← pz_sec_congr hg2] at E
      refine ax_iload_n (q := 12) B d_S_writeTable_11 rfl rfl rfl ?_
      refine ax_bipush (v := nI 8) (q := 14) B d_S_writeTable_12 cb_8 rfl ?_
      refine ax_icmpN_ge (q := 47) (q2 := 17) B (by omega) (by omega) d_S_writeTable_14 rfl rfl (fun h14 => ?_) (fun h14 => ?_)
      · refine ax_aload_n (q := 48) B d_S_writeTable_47 rfl rfl rfl ?_
        refine ax_getP (q := 51) B fl_S_23 rfl d_S_writeTable_48 (by assumption) (by assumption) rfl ?_
        refine ax_gV0 (q := 54) B cv_S_93 d_S_writeTable_51 (by assumption) (Nat.le_of_ble_eq_true rfl) (by decide) (kk_finish hG hd) rfl (fun v f1 hv => ?_)
        obtain ⟨rfl, hm1, hf1⟩ := hv
        refine ax_zret B E (by first | exact bI_or _ | decide) d_S_writeTable_54 ?_
        exact ⟨_, rfl, rfl, hm1, fun q hq => by rw [hf1 q (by omega), hf q (by omega)]⟩
      · omega
    | succ m ih =>
      intro j f g hj hd hg hf
      obtain ⟨rj, nj⟩ := hG.t4.2.2.2.2 j (by omega)
      have ij := nj.1
      have e3 : f (4 + 2 + 2 * j) 3 = nI (pz_en t j) + (-1) := by rw [hf _ (by omega)]; exact (hT j (by omega)).2.2.1
      have henj := hen j (by omega)
      refine ax_iload_n (q := 12) B d_S_writeTable_11 rfl rfl rfl ?_
      refine ax_bipush (v := nI 8) (q := 14) B d_S_writeTable_12 cb_8 rfl ?_
      refine ax_icmpN_ge (q := 47) (q2 := 17) B (by omega) (by omega) d_S_writeTable_14 rfl rfl (fun h14 => ?_) (fun h14 => ?_)
      · omega
      · refine ax_aload_n (q := 18) B d_S_writeTable_17 rfl rfl rfl ?_
        refine ax_getP (q := 21) B fl_S_23 rfl d_S_writeTable_18 (by assumption) (by assumption) rfl ?_
        refine ax_iconst (v := nI 4) (q := 22) B d_S_writeTable_21 ci_4 rfl ?_
        refine ax_iload_n (q := 23) B d_S_writeTable_22 rfl rfl rfl ?_
        first | refine ax_iaddN (q := 24) B d_S_writeTable_23 rfl ?_ | refine ax_iadd (q := 24) B d_S_writeTable_23 rfl ?_
        refine ax_aload_n (q := 25) B d_S_writeTable_24 rfl rfl rfl ?_
        refine ax_getP (q := 28) B fl_S_30 rfl d_S_writeTable_25 (by assumption) (by assumption) rfl ?_
        refine ax_getP (q := 31) B fl_S_65 rfl d_S_writeTable_28 (by assumption) (by assumption) rfl ?_
        refine ax_iload_n (q := 32) B d_S_writeTable_31 rfl rfl rfl ?_
        refine ax_aaldN (q := 33) B d_S_writeTable_32 (by assumption) rfl (by omega) (by omega) (by first | assumption | rfl) rfl ?_
        refine ax_getN (q := 36) B fl_S_176 rfl d_S_writeTable_33 (by assumption) (by first | assumption | rfl) rfl ?_
        refine ax_iconst (v := nI 1) (q := 37) B d_S_writeTable_36 ci_1 rfl ?_
        refine ax_iadd (q := 38) B d_S_writeTable_37 rfl ?_
        refine ax_top (m1p _) ?_
        refine ax_pV2 (q := 41) B cv_S_90 d_S_writeTable_38 (by assumption) (Nat.le_of_ble_eq_true rfl) (by decide) (kk_put hG hd (by omega) henj) rfl (fun f1 hf1 => ?_)
        refine ax_iincN (j := 1) (q := 44) B d_S_writeTable_41 rfl ii_1 (by decide) rfl ?_
        refine ax_goto (q := 11) B d_S_writeTable_44 rfl ?_
        refine ih (j + 1) f1 _ (by omega) hf1.1 (fun x hx h1 => ?_) (fun q hq => (hf1.2 q hq).trans (hf q hq))
        by_cases hxj : x = 4 + j
        · subst hxj
          rw [pz_up_s, if_neg (by omega)]
          unfold pz_table
          rw [if_neg (by omega), if_neg (by omega), if_neg (by omega), if_pos (by omega), show 4 + j - 4 = j by omega]
        · rw [pz_up_n hxj, hg x hx h1]
          by_cases h12 : 4 ≤ x ∧ 4 + j ≤ x
          · rw [if_pos h12, if_pos (by omega)]
          · rw [if_neg h12, if_neg (by omega)]
  refine ax_aload_n (q := 1) B d_S_writeTable_0 rfl rfl rfl ?_
  refine ax_getP (q := 4) B fl_S_23 rfl d_S_writeTable_1 (by assumption) (by assumption) rfl ?_
  refine ax_iconst (v := nI 3) (q := 5) B d_S_writeTable_4 ci_3 rfl ?_
  refine ax_iload_n (q := 6) B d_S_writeTable_5 rfl rfl rfl ?_
  refine ax_pV2 (q := 9) B cv_S_87 d_S_writeTable_6 (by assumption) (Nat.le_of_ble_eq_true rfl) (by decide) (kk_begin hG hm hk h0 (by omega) hnum) rfl (fun h3 hh3 => ?_)
  refine ax_iconst (v := nI 0) (q := 10) B d_S_writeTable_9 ci_0 rfl ?_
  refine ax_istore_n (q := 11) B d_S_writeTable_10 rfl (by decide) rfl ?_
  refine loop 8 0 h3 _ rfl hh3.1 (fun x hx h1 => ?_) hh3.2
  by_cases x4 : 4 ≤ x ∧ 4 + 0 ≤ x
  · rw [if_pos x4]
    unfold pz_up
    rw [if_neg (by omega), if_neg (by omega), if_neg (by omega)]
  · rw [if_neg x4]
    unfold pz_up pz_table
    by_cases x0 : x = 0
    · subst x0; rfl
    · by_cases x2 : x = 2
      · subst x2; rfl
      · have x3 : x = 3 := by omega
        subst x3; rfl
/-- while the entries are being written -/
def pz_tj (t : pz_T) (j : Nat) (en : Nat → Nat) : pz_T := (pz_kd t, pz_ct t, fun i => if i < j then false else pz_ch t i, en, pz_it t)
theorem pz_es_t {t : pz_T} {k sp : Nat} {w : Nat → Nat} {j : Nat} (h : (pz_es t k w sp j).2 = true) : ∀ m, pz_es t k w sp (j + m) = pz_es t k w sp j
  | 0 => rfl
  | m + 1 => by
    show (match pz_es t k w sp (j + m) with
      | (s, true) => (s, true)
      | ((k', w', sp', en'), false) => if pz_ch t (j + m) = true then ((k' + 1, pz_sec w' k' (pz_entry k' (j + m) t) (sp' == 1), sp' - 1, pz_up en' (j + m) (k' + 1)), sp' == 1) else ((k', w', sp', en'), false)) = _
    rw [pz_es_t h m]
    generalize pz_es t k w sp j = z at h ⊢
    obtain ⟨⟨k', w', sp', en'⟩, b⟩ := z
    have h : b = true := h
    subst h
    rfl
theorem pz_es_s {t : pz_T} {k sp : Nat} {w : Nat → Nat} {j k' sp' : Nat} {w' en' : Nat → Nat} (h : pz_es t k w sp j = ((k', w', sp', en'), false)) : pz_es t k w sp (j + 1) = if pz_ch t j = true then ((k' + 1, pz_sec w' k' (pz_entry k' j t) (sp' == 1), sp' - 1, pz_up en' j (k' + 1)), sp' == 1) else ((k', w', sp', en'), false) := by
  show (match pz_es t k w sp j with
      | (s, true) => (s, true)
      | ((k', w', sp', en'), false) => if pz_ch t j = true then ((k' + 1, pz_sec w' k' (pz_entry k' j t) (sp' == 1), sp' - 1, pz_up en' j (k' + 1)), sp' == 1) else ((k', w', sp', en'), false)) = _
  rw [h]
theorem pz_sec_zero {w f : Nat → Nat} {k : Nat} {b : Bool} (h0 : ∀ x, 16 * k ≤ x → w x = 0) : ∀ x, 16 * (k + 1) ≤ x → pz_sec w k f b x = 0 := fun x hx => by
  rw [pz_sec_far (by omega)]
  exact h0 x (by omega)
theorem pz_cp_mono {P : Nat → Bool} {a b : Nat} (h : a ≤ b) : pz_cp P a ≤ pz_cp P b := by
  induction b with
  | zero => rw [show a = 0 by omega]; exact Nat.le_refl _
  | succ b ih =>
    by_cases hb : a = b + 1
    · rw [hb]; exact Nat.le_refl _
    · have := ih (by omega)
      show pz_cp P a ≤ pz_cp P b + (if P b = true then 1 else 0)
      omega
theorem k_we_ext {t : pz_T} {j k : Nat} {en : Nat → Nat} {h : aw_H} (hT : hz_T 4 (pz_wre (pz_tj t j en) j k) h) : ∀ i, i < 8 → hz_N 4 (pz_tj t (j + 1) (pz_up en j (k + 1))) h i := fun i hi => by
  refine (hT i hi).ext rfl rfl ?_ rfl (fun s hs => rfl)
  show (if i < j + 1 then false else pz_ch t i) = pz_up (fun i => if i < j then false else pz_ch t i) j false i
  by_cases hij : i = j
  · subst hij; rw [pz_up_s, if_pos (by omega)]
  · rw [pz_up_n hij]
    by_cases h2 : i < j
    · rw [if_pos h2, if_pos (by omega)]
    · rw [if_neg h2, if_neg (by omega)]
theorem k_we_ext2 {t : pz_T} {j : Nat} {en : Nat → Nat} {h : aw_H} (hj : pz_ch t j = false) (hT : hz_T 4 (pz_tj t j en) h) : ∀ i, i < 8 → hz_N 4 (pz_tj t (j + 1) en) h i := fun i hi => by
  refine (hT i hi).ext rfl rfl ?_ rfl (fun s hs => rfl)
  show (if i < j + 1 then false else pz_ch t i) = (if i < j then false else pz_ch t i)
  by_cases hij : i = j
  · subst hij; rw [if_pos (by omega), if_neg (by omega), hj]
  · by_cases h2 : i < j
    · rw [if_pos h2, if_pos (by omega)]
    · rw [if_neg h2, if_neg (by omega)]
theorem k_writeEntries {l : Launch} {G : aw_G} (hG : gz G) {h : aw_H} {k sp : Nat} {w : Nat → Nat} (hm : mz G k sp w h) {t : pz_T} (hT : hz_T 4 t h) (hk : k + pz_nch t 8 < aw_n G) (h0 : ∀ x, 16 * k ≤ x → w x = 0) :
    aw_F l G 5 Y_S_writeEntries [.inl (some 0)] h (fun v h' => v = .inr (bI (!(pz_es t k w sp 8).2)) ∧ mz G (pz_es t k w sp 8).1.1 (pz_es t k w sp 8).1.2.2.1 (pz_es t k w sp 8).1.2.1 h' ∧ ((pz_es t k w sp 8).2 = false → hz_T 4 (pz_tj t 8 (pz_es t k w sp 8).1.2.2.2) h') ∧ ∀ q, 22 ≤ q → h' q = h q) := by
  refine aw_met hG.1 (by decide) (Nat.le_of_ble_eq_true rfl) (fun M hM B E => ?_)
  show aw_X M G 3 0 [some (.inl (some 0)), none, none] [] h
  have i0 := hG.is0
  have i4 := hG.t4.2.1
  have a5 := hG.t4.2.2.2.1
  have r4 := hG.t4.2.2.1
  have r1 : aw_rM 0 1 = some 4 := rfl
  have loop : ∀ m j (f : aw_H) (u : Option aw_V) (k' sp' : Nat) (w' en' : Nat → Nat), j + m = 8 → pz_es t k w sp j = ((k', w', sp', en'), false) → k' = k + pz_nch t j → mz G k' sp' w' f → hz_T 4 (pz_tj t j en') f → (∀ x, 16 * k' ≤ x → w' x = 0) → (∀ q, 22 ≤ q → f q = h q) → aw_X M G 3 2 [some (.inl (some 0)), some (.inr (nI j)), u] [] f := by
    intro m
    induction m with
    | zero =>
      intro j f u k' sp' w' en' hj he hk' hmf hTf hzf hff
      have hj : j = 8 := by omega
      subst hj
      rw [he] at E
      refine ax_iload_n (q := 3) B d_S_writeEntries_2 rfl rfl rfl ?_
      refine ax_bipush (v := nI 8) (q := 5) B d_S_writeEntries_3 cb_8 rfl ?_
      refine ax_icmpN_ge (q := 42) (q2 := 8) B (by omega) (by omega) d_S_writeEntries_5 rfl rfl (fun h5 => ?_) (fun h5 => ?_)
      · refine ax_iconst (v := nI 1) (q := 43) B d_S_writeEntries_42 ci_1 rfl ?_
        refine ax_zret B E (by first | exact bI_or _ | decide) d_S_writeEntries_43 ?_
        exact ⟨_, rfl, rfl, hmf, fun _ => hTf, hff⟩
      · omega
    | succ m ih =>
      intro j f u k' sp' w' en' hj he hk' hmf hTf hzf hff
      obtain ⟨rj, nj⟩ := hG.t4.2.2.2.2 j (by omega)
      have ij := nj.1
      have hNj := hTf j (by omega)
      have e4 : f (4 + 2 + 2 * j) 4 = bI (pz_ch t j) := by
        have h4 := hNj.2.2.2.1
        have hz : pz_ch (pz_tj t j en') j = pz_ch t j := if_neg (by omega)
        rw [hz] at h4
        exact h4
      have hs := pz_es_s he
      have hnc : pz_nch t (j + 1) = pz_nch t j + (if pz_ch t j = true then 1 else 0) := rfl
      have hmono : pz_nch t (j + 1) ≤ pz_nch t 8 := pz_cp_mono (by omega)
      refine ax_iload_n (q := 3) B d_S_writeEntries_2 rfl rfl rfl ?_
      refine ax_bipush (v := nI 8) (q := 5) B d_S_writeEntries_3 cb_8 rfl ?_
      refine ax_icmpN_ge (q := 42) (q2 := 8) B (by omega) (by omega) d_S_writeEntries_5 rfl rfl (fun h5 => ?_) (fun h5 => ?_)
      · omega
      · refine ax_aload_n (q := 9) B d_S_writeEntries_8 rfl rfl rfl ?_
        refine ax_getP (q := 12) B fl_S_30 rfl d_S_writeEntries_9 (by assumption) (by assumption) rfl ?_
        refine ax_getP (q := 15) B fl_S_65 rfl d_S_writeEntries_12 (by assumption) (by assumption) rfl ?_
        refine ax_iload_n (q := 16) B d_S_writeEntries_15 rfl rfl rfl ?_
        refine ax_aaldN (q := 17) B d_S_writeEntries_16 (by assumption) rfl (by omega) (by omega) (by first | assumption | rfl) rfl ?_
        refine ax_astore_n (q := 18) B d_S_writeEntries_17 rfl (by decide) rfl ?_
        refine ax_aload_n (q := 19) B d_S_writeEntries_18 rfl rfl rfl ?_
        refine ax_getN (q := 22) B fl_S_112 rfl d_S_writeEntries_19 (by assumption) (by first | assumption | rfl) rfl ?_
        refine ax_ifZ_eq (q := 36) (q2 := 25) B d_S_writeEntries_22 rfl rfl (fun h22 => ?_) (fun h22 => ?_)
        · refine ax_iincN (j := 1) (q := 39) B d_S_writeEntries_36 rfl ii_1 (by decide) rfl ?_
          refine ax_goto (q := 2) B d_S_writeEntries_39 rfl ?_
          first | (have hsp : sp' ≠ 1 := of_decide_eq_true h31; rw [pz_beq_ne hsp] at hs hm1; exact ih (j + 1) f1 _ _ _ _ _ (by omega) hs (by omega) hm1 (fun i hi => k_we_ext hT1 i hi) (pz_sec_zero hzf) (fun q hq => by rw [hf1 q hq, hff q hq])) | (rw [if_neg (by rw [h22]; decide)] at hs hnc; exact ih (j + 1) f _ _ _ _ _ (by omega) hs (by omega) hmf (fun i hi => k_we_ext2 h22 hTf i hi) hzf hff)
        · refine ax_aload_n (q := 26) B d_S_writeEntries_25 rfl rfl rfl ?_
          refine ax_iload_n (q := 27) B d_S_writeEntries_26 rfl rfl rfl ?_
          refine ax_aload_n (q := 28) B d_S_writeEntries_27 rfl rfl rfl ?_
          rw [if_pos h22] at hs hnc
          refine ax_gV2 (q := 31) B cv_S_172 d_S_writeEntries_28 (by assumption) (Nat.le_of_ble_eq_true rfl) (by decide) (k_writeEntry hG hmf hTf (by omega) hzf (by omega)) rfl (fun v f1 hv => ?_)
          obtain ⟨rfl, hm1, hT1, hf1⟩ := hv
          refine ax_ifZ_ne (q := 36) (q2 := 34) B d_S_writeEntries_31 rfl rfl (fun h31 => ?_) (fun h31 => ?_)
          · refine ax_iincN (j := 1) (q := 39) B d_S_writeEntries_36 rfl ii_1 (by decide) rfl ?_
            refine ax_goto (q := 2) B d_S_writeEntries_39 rfl ?_
            first | (have hsp : sp' ≠ 1 := of_decide_eq_true h31; rw [pz_beq_ne hsp] at hs hm1; exact ih (j + 1) f1 _ _ _ _ _ (by omega) hs (by omega) hm1 (fun i hi => k_we_ext hT1 i hi) (pz_sec_zero hzf) (fun q hq => by rw [hf1 q hq, hff q hq])) | (rw [if_neg (by rw [h22]; decide)] at hs hnc; exact ih (j + 1) f _ _ _ _ _ (by omega) hs (by omega) hmf (fun i hi => k_we_ext2 h22 hTf i hi) hzf hff)
          · have hsp : sp' = 1 := Decidable.byContradiction (fun z => by rw [decide_eq_true z] at h31; cases h31)
            have e8 : pz_es t k w sp 8 = ((k' + 1, pz_sec w' k' (pz_entry k' j t) (sp' == 1), sp' - 1, pz_up en' j (k' + 1)), sp' == 1) := by rw [show (8 : Nat) = j + 1 + m by omega, pz_es_t (by rw [hs, hsp]; rfl) m, hs]
            rw [e8, hsp] at E
            rw [hsp] at hm1
            refine ax_iconst (v := nI 0) (q := 35) B d_S_writeEntries_34 ci_0 rfl ?_
            exact ax_zret B E (by decide) d_S_writeEntries_35 ⟨_, rfl, rfl, hm1, (fun z => absurd z (show ¬ ((1 : Nat) == 1) = false by decide)), fun q hq => by rw [hf1 q hq, hff q hq]⟩
  refine ax_iconst (v := nI 0) (q := 1) B d_S_writeEntries_0 ci_0 rfl ?_
  refine ax_istore_n (q := 2) B d_S_writeEntries_1 rfl (by decide) rfl ?_
  exact loop 8 0 h none k sp w (pz_en t) rfl rfl rfl hm (fun i hi => (hT i hi).ext rfl rfl rfl rfl (fun j hj => rfl)) h0 (fun q _ => rfl)
