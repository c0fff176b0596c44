theorem i32_lt {x y : Int32} (h : ¬ y ≤ x) : x < y := by
  rw [Int32.le_iff_toInt_le] at h
  rw [Int32.lt_iff_toInt_lt]
  omega
theorem i32_nlt {x y : Int32} (h : y ≤ x) : ¬ x < y := by
  rw [Int32.le_iff_toInt_le] at h
  rw [Int32.lt_iff_toInt_lt]
  omega
theorem lt_full {u a v : Nat} (hu : u < 2 ^ 30) (ha : a < 2 ^ 30) (hv : v < 2 ^ 30) : nI u - nI a < nI v ↔ u < a + v := by
  rw [Int32.lt_iff_toInt_lt, pk_sub_toInt hu ha, nI_toInt (by omega)]
  omega
theorem k_isTooFull {l : Launch} {G : aw_G} (hG : gz G) {h : aw_H} {k sp : Nat} {w : Nat → Nat} (hm : mz G k sp w h) {t : pz_T} (hT : hz_T 4 t h) {a c : Nat} {y : Int32} (ha : a ≤ 1) (hc : c ≤ 100) (hy : nI (pz_nch t 8) + y = nI c) : aw_I l G 1 Y_S_isTooFull [.inl (some 0), .inr (nI a), .inr y] h (.inr (bI (decide (aw_n G < k + a + c + 1)))) := by
  refine aw_met hG.1 (by decide) (Nat.le_of_ble_eq_true rfl) (fun M hM B E => ?_)
  show aw_X M G 3 0 [some (.inl (some 0)), some (.inr (nI a)), some (.inr y)] [] h
  have i0 := hG.is0
  have i1 := hG.is1
  have i4 := hG.t4.2.1
  have r0 : aw_rM 0 0 = some 1 := rfl
  have r1 : aw_rM 0 1 = some 4 := rfl
  have n2 := hG.2.2.2
  obtain ⟨⟨e0, -⟩, e3, -, hk, -, -⟩ := hm
  have hl := lt_full (u := aw_n G - k) (a := a) (v := c + 1) (by omega) (by omega) (by omega)
  refine ax_aload_n (q := 1) B d_S_isTooFull_0 rfl rfl rfl ?_
  refine ax_getP (q := 4) B fl_S_23 rfl d_S_isTooFull_1 (by assumption) (by assumption) rfl ?_
  refine ax_qV0 (q := 7) B cv_S_146 d_S_isTooFull_4 (by assumption) (Nat.le_of_ble_eq_true rfl) (by decide) (k_unwritten hG e0 e3 hk) rfl ?_
  refine ax_iload_n (q := 8) B d_S_isTooFull_7 rfl rfl rfl ?_
  refine ax_isub (q := 9) B d_S_isTooFull_8 rfl ?_
  refine ax_aload_n (q := 10) B d_S_isTooFull_9 rfl rfl rfl ?_
  refine ax_getP (q := 13) B fl_S_30 rfl d_S_isTooFull_10 (by assumption) (by assumption) rfl ?_
  refine ax_qV0 (q := 16) B cv_S_125 d_S_isTooFull_13 (by assumption) (Nat.le_of_ble_eq_true rfl) (by decide) (k_countChanged hG.1 hG.t4 hT) rfl ?_
  refine ax_iload_n (q := 17) B d_S_isTooFull_16 rfl rfl rfl ?_
  refine ax_iadd (q := 18) B d_S_isTooFull_17 rfl ?_
  refine ax_top hy ?_
  refine ax_iconst (v := nI 1) (q := 19) B d_S_isTooFull_18 ci_1 rfl ?_
  first | refine ax_iaddN (q := 20) B d_S_isTooFull_19 rfl ?_ | refine ax_iadd (q := 20) B d_S_isTooFull_19 rfl ?_
  refine ax_icmp_ge (q := 27) (q2 := 23) B d_S_isTooFull_20 rfl rfl (fun h20 => ?_) (fun h20 => ?_)
  · refine ax_iconst (v := nI 0) (q := 28) B d_S_isTooFull_27 ci_0 rfl ?_
    refine ax_zret B E (by first | exact bI_or _ | decide) d_S_isTooFull_28 ?_
    first | exact ⟨by rw [decide_eq_true (show aw_n G < k + a + c + 1 by have h9 := hl.mp (i32_lt h20); omega)]; rfl, rfl⟩ | exact ⟨by rw [decide_eq_false (fun z => i32_nlt h20 (hl.mpr (by omega)))]; rfl, rfl⟩
  · refine ax_iconst (v := nI 1) (q := 24) B d_S_isTooFull_23 ci_1 rfl ?_
    refine ax_goto (q := 28) B d_S_isTooFull_24 rfl ?_
    refine ax_zret B E (by first | exact bI_or _ | decide) d_S_isTooFull_28 ?_
    first | exact ⟨by rw [decide_eq_true (show aw_n G < k + a + c + 1 by have h9 := hl.mp (i32_lt h20); omega)]; rfl, rfl⟩ | exact ⟨by rw [decide_eq_false (fun z => i32_nlt h20 (hl.mpr (by omega)))]; rfl, rfl⟩
theorem mz.kept {G : aw_G} {k sp : Nat} {w : Nat → Nat} {h h' : aw_H} (hm : mz G k sp w h) (e1 : h' 1 = h 1) (e2 : h' 2 = h 2) (e3 : h' 3 = h 3) : mz G k sp w h' := by
  unfold mz wz
  rw [e1, e2, e3]
  exact hm
def pz_wre (t : pz_T) (i k : Nat) : pz_T := (pz_kd t, pz_ct t, pz_up (pz_ch t) i false, pz_up (pz_en t) i (k + 1), pz_it t)
def pz_entJ (k n : Nat) (t : pz_T) (j : Nat) : Nat → Nat := fun i => if i = 0 then 2 else if i = 2 then k else if i = 3 then n else if i = 4 then pz_kd t n else if i = 5 then pz_ct t n else if 6 ≤ i ∧ i < 6 + j then pz_it t n (i - 6) else 0
theorem k_writeEntry {l : Launch} {G : aw_G} (hG : gz G) {h : aw_H} {k sp : Nat} {w : Nat → Nat} (hm : mz G k sp w h) {t : pz_T} (hT : hz_T 4 t h) (hk : k < aw_n G) (h0 : ∀ x, 16 * k ≤ x → w x = 0) {i : Nat} (hi : i < 8) :
    aw_F l G 4 Y_S_writeEntry [.inl (some 0), .inr (nI i), .inl (some (4 + 2 + 2 * i))] h (fun v h' => v = .inr (bI (decide (sp ≠ 1))) ∧ mz G (k + 1) (sp - 1) (pz_sec w k (pz_entry k i t) (sp == 1)) h' ∧ hz_T 4 (pz_wre t i k) h' ∧ ∀ q, 22 ≤ q → h' q = h q) := by
  refine aw_met hG.1 (by decide) (Nat.le_of_ble_eq_true rfl) (fun M hM B E => ?_)
  show aw_X M G 4 0 [some (.inl (some 0)), some (.inr (nI i)), some (.inl (some (4 + 2 + 2 * i))), none] [] h
  have i0 := hG.is0
  have i1 := hG.is1
  have r0 : aw_rM 0 0 = some 1 := rfl
  have n2 := hG.2.2.2
  obtain ⟨ib, rb, ab⟩ := (hG.t4.2.2.2.2 i hi).2
  obtain ⟨b, hb⟩ : ∃ b, b = 4 + 2 + 2 * i := ⟨_, rfl⟩
  have hNi := hT i hi
  unfold hz_N at hNi
  rw [← hb] at ib rb ab hNi
  rw [← hb]
  obtain ⟨q1, q2, q3, q4, q5, q6, q7⟩ := hNi
  have e3 := hm.2.1
  have tail : ∀ (f : aw_H) (g : Nat → Nat) (u : Option aw_V), dz G k sp w g f → (∀ x, x < 16 → x ≠ 1 → g x = pz_entry k i t x) → (∀ q, q ≠ 2 → f q = aw_u (aw_u h b 3 (nI k)) b 4 (nI 0) q) → aw_X M G 4 82 [some (.inl (some 0)), some (.inr (nI i)), some (.inl (some b)), u] [] f := by
    intro f g u hd hg hf
    rw [← pz_sec_congr hg] at E
    refine ax_aload_n (q := 83) B d_S_writeEntry_82 rfl rfl rfl ?_
    refine ax_getP (q := 86) B fl_S_23 rfl d_S_writeEntry_83 (by assumption) (by assumption) rfl ?_
    refine ax_gV0 (q := 89) B cv_S_93 d_S_writeEntry_86 (by assumption) (Nat.le_of_ble_eq_true rfl) (by decide) (kk_finish hG hd) rfl (fun v f1 hv => ?_)
    obtain ⟨rfl, hm1, hf1⟩ := hv
    refine ax_zret B E (bI_or _) d_S_writeEntry_89 ⟨_, rfl, rfl, hm1, fun s hs => ?_, fun q hq => ?_⟩
    · by_cases hsi : s = i
      · subst hsi
        unfold hz_N
        have eb1 : f1 (b + 1) = h (b + 1) := by rw [hf1 (b + 1) (by omega), hf (b + 1) (by omega), aw_u_ne (by omega), aw_u_ne (by omega)]
        have eb : f1 b = aw_u (aw_u h b 3 (nI k)) b 4 (nI 0) b := by rw [hf1 b (by omega), hf b (by omega)]
        rw [← hb, eb, eb1]
        refine ⟨aw_rd (by omega) (aw_rd (by omega) q1), aw_rd (by omega) (aw_rd (by omega) q2), aw_rd (by omega) (aw_rs.trans ?_), aw_rs.trans ?_, q5, q6, q7⟩
        · show nI k = nI (pz_up (pz_en t) s (k + 1) s) + (-1)
          rw [pz_up_s, pk_m1]
        · show nI 0 = bI (pz_up (pz_ch t) s false s)
          rw [pz_up_s]
          rfl
      · have hN := hT s hs
        refine (hN.ext (t' := pz_wre t i k) rfl rfl (pz_up_n hsi) (pz_up_n hsi) (fun j hj => rfl)).kept ?_ ?_
        · rw [hf1 _ (by omega), hf _ (by omega), aw_u_ne (by omega), aw_u_ne (by omega)]
        · rw [hf1 _ (by omega), hf _ (by omega), aw_u_ne (by omega), aw_u_ne (by omega)]
    · rw [hf1 q (by omega), hf q (by omega), aw_u_ne (by omega), aw_u_ne (by omega)]
  have loop : ∀ m j (f : aw_H) (g : Nat → Nat), j + m = pz_ct t i → dz G k sp w g f → (∀ x, x < 16 → x ≠ 1 → g x = pz_entJ k i t j x) → (∀ q, q ≠ 2 → f q = aw_u (aw_u h b 3 (nI k)) b 4 (nI 0) q) → aw_X M G 4 51 [some (.inl (some 0)), some (.inr (nI i)), some (.inl (some b)), some (.inr (nI j))] [] f := by
    intro m
    induction m with
    | zero =>
      intro j f g hj hd hg hf
      have f2 : f b 2 = nI (pz_ct t i) := by rw [hf b (by omega)]; exact aw_rd (by omega) (aw_rd (by omega) q2)
      have hj : j = pz_ct t i := by omega
      subst hj
      refine ax_iload_n (q := 52) B d_S_writeEntry_51 rfl rfl rfl ?_
      refine ax_aload_n (q := 53) B d_S_writeEntry_52 rfl rfl rfl ?_
      refine ax_getN (q := 56) B fl_S_80 rfl d_S_writeEntry_53 (by assumption) (by first | assumption | rfl) rfl ?_
      refine ax_icmpN_ge (q := 82) (q2 := 59) B (by omega) (by omega) d_S_writeEntry_56 rfl rfl (fun h56 => ?_) (fun h56 => ?_)
      · exact tail f g _ hd hg hf
      · omega
    | succ m ih =>
      intro j f g hj hd hg hf
      have f2 : f b 2 = nI (pz_ct t i) := by rw [hf b (by omega)]; exact aw_rd (by omega) (aw_rd (by omega) q2)
      obtain ⟨q71, q72⟩ := q7 j (by omega)
      have f7 : f (b + 1) j = nI (pz_it t i j) := by rw [hf (b + 1) (by omega), aw_u_ne (by omega), aw_u_ne (by omega)]; exact q71
      refine ax_iload_n (q := 52) B d_S_writeEntry_51 rfl rfl rfl ?_
      refine ax_aload_n (q := 53) B d_S_writeEntry_52 rfl rfl rfl ?_
      refine ax_getN (q := 56) B fl_S_80 rfl d_S_writeEntry_53 (by assumption) (by first | assumption | rfl) rfl ?_
      refine ax_icmpN_ge (q := 82) (q2 := 59) B (by omega) (by omega) d_S_writeEntry_56 rfl rfl (fun h56 => ?_) (fun h56 => ?_)
      · omega
      · refine ax_aload_n (q := 60) B d_S_writeEntry_59 rfl rfl rfl ?_
        refine ax_getP (q := 63) B fl_S_23 rfl d_S_writeEntry_60 (by assumption) (by assumption) rfl ?_
        refine ax_bipush (v := nI 6) (q := 65) B d_S_writeEntry_63 cb_6 rfl ?_
        refine ax_iload_n (q := 66) B d_S_writeEntry_65 rfl rfl rfl ?_
        first | refine ax_iaddN (q := 67) B d_S_writeEntry_66 rfl ?_ | refine ax_iadd (q := 67) B d_S_writeEntry_66 rfl ?_
        refine ax_aload_n (q := 68) B d_S_writeEntry_67 rfl rfl rfl ?_
        refine ax_getP (q := 71) B fl_S_159 rfl d_S_writeEntry_68 (by assumption) (by assumption) rfl ?_
        refine ax_iload_n (q := 72) B d_S_writeEntry_71 rfl rfl rfl ?_
        refine ax_ialdN (q := 73) B d_S_writeEntry_72 (by assumption) rfl (by omega) (by omega) (by first | assumption | rfl) rfl ?_
        refine ax_pV2 (q := 76) B cv_S_90 d_S_writeEntry_73 (by assumption) (Nat.le_of_ble_eq_true rfl) (by decide) (kk_put hG hd (by omega) q72) rfl (fun f1 hf1 => ?_)
        refine ax_iincN (j := 1) (q := 79) B d_S_writeEntry_76 rfl ii_1 (by decide) rfl ?_
        refine ax_goto (q := 51) B d_S_writeEntry_79 rfl ?_
        refine ih (j + 1) f1 _ (by omega) hf1.1 (fun x hx h1 => ?_) (fun q hq => (hf1.2 q hq).trans (hf q hq))
        by_cases hxj : x = 6 + j
        · subst hxj
          rw [pz_up_s]
          unfold pz_entJ
          rw [if_neg (by omega), if_neg (by omega), if_neg (by omega), if_neg (by omega), if_neg (by omega), if_pos (by omega), show 6 + j - 6 = j by omega]
        · rw [pz_up_n hxj, hg x hx h1]
          unfold pz_entJ
          by_cases hx6 : 6 ≤ x ∧ x < 6 + j
          · rw [if_pos hx6, if_pos (show 6 ≤ x ∧ x < 6 + (j + 1) by omega)]
          · rw [if_neg hx6, if_neg (show ¬ (6 ≤ x ∧ x < 6 + (j + 1)) by omega)]
  refine ax_aload_n (q := 1) B d_S_writeEntry_0 rfl rfl rfl ?_
  refine ax_aload_n (q := 2) B d_S_writeEntry_1 rfl rfl rfl ?_
  refine ax_getP (q := 5) B fl_S_23 rfl d_S_writeEntry_2 (by assumption) (by assumption) rfl ?_
  refine ax_getN (q := 8) B fl_S_84 rfl d_S_writeEntry_5 (by assumption) (by first | assumption | rfl) rfl ?_
  refine ax_putN (q := 11) B fp_S_176 d_S_writeEntry_8 (by assumption) rfl ?_
  refine ax_aload_n (q := 12) B d_S_writeEntry_11 rfl rfl rfl ?_
  refine ax_iconst (v := nI 0) (q := 13) B d_S_writeEntry_12 ci_0 rfl ?_
  refine ax_putB (q := 16) B fp_S_112 (by first | exact bI_or _ | decide) d_S_writeEntry_13 (by assumption) rfl ?_
  obtain ⟨h2, hh2⟩ : ∃ h2, h2 = aw_u (aw_u h b 3 (nI k)) b 4 (nI 0) := ⟨_, rfl⟩
  rw [← hh2] at loop ⊢
  have hm2 : mz G k sp w h2 := hm.kept (by rw [hh2, aw_u_ne (by omega), aw_u_ne (by omega)]) (by rw [hh2, aw_u_ne (by omega), aw_u_ne (by omega)]) (by rw [hh2, aw_u_ne (by omega), aw_u_ne (by omega)])
  have g1 : h2 b 1 = nI (pz_kd t i) := by rw [hh2]; exact aw_rd (by omega) (aw_rd (by omega) q1)
  have g2 : h2 b 2 = nI (pz_ct t i) := by rw [hh2]; exact aw_rd (by omega) (aw_rd (by omega) q2)
  refine ax_aload_n (q := 17) B d_S_writeEntry_16 rfl rfl rfl ?_
  refine ax_getP (q := 20) B fl_S_23 rfl d_S_writeEntry_17 (by assumption) (by assumption) rfl ?_
  refine ax_iconst (v := nI 2) (q := 21) B d_S_writeEntry_20 ci_2 rfl ?_
  refine ax_iload_n (q := 22) B d_S_writeEntry_21 rfl rfl rfl ?_
  refine ax_pV2 (q := 25) B cv_S_87 d_S_writeEntry_22 (by assumption) (Nat.le_of_ble_eq_true rfl) (by decide) (kk_begin hG hm2 hk h0 (by omega) (by omega)) rfl (fun h3 hh3 => ?_)
  have g13 : h3 b 1 = nI (pz_kd t i) := by rw [hh3.2 b (by omega)]; exact g1
  refine ax_aload_n (q := 26) B d_S_writeEntry_25 rfl rfl rfl ?_
  refine ax_getP (q := 29) B fl_S_23 rfl d_S_writeEntry_26 (by assumption) (by assumption) rfl ?_
  refine ax_iconst (v := nI 4) (q := 30) B d_S_writeEntry_29 ci_4 rfl ?_
  refine ax_aload_n (q := 31) B d_S_writeEntry_30 rfl rfl rfl ?_
  refine ax_getN (q := 34) B fl_S_109 rfl d_S_writeEntry_31 (by assumption) (by first | assumption | rfl) rfl ?_
  refine ax_pV2 (q := 37) B cv_S_90 d_S_writeEntry_34 (by assumption) (Nat.le_of_ble_eq_true rfl) (by decide) (kk_put hG hh3.1 (by omega) q5) rfl (fun h4 hh4 => ?_)
  have g24 : h4 b 2 = nI (pz_ct t i) := by rw [hh4.2 b (by omega), hh3.2 b (by omega)]; exact g2
  refine ax_aload_n (q := 38) B d_S_writeEntry_37 rfl rfl rfl ?_
  refine ax_getP (q := 41) B fl_S_23 rfl d_S_writeEntry_38 (by assumption) (by assumption) rfl ?_
  refine ax_iconst (v := nI 5) (q := 42) B d_S_writeEntry_41 ci_5 rfl ?_
  refine ax_aload_n (q := 43) B d_S_writeEntry_42 rfl rfl rfl ?_
  refine ax_getN (q := 46) B fl_S_80 rfl d_S_writeEntry_43 (by assumption) (by first | assumption | rfl) rfl ?_
  refine ax_pV2 (q := 49) B cv_S_90 d_S_writeEntry_46 (by assumption) (Nat.le_of_ble_eq_true rfl) (by decide) (kk_put hG hh4.1 (by omega) (by omega)) rfl (fun h5 hh5 => ?_)
  refine ax_iconst (v := nI 0) (q := 50) B d_S_writeEntry_49 ci_0 rfl ?_
  refine ax_istore_n (q := 51) B d_S_writeEntry_50 rfl (by decide) rfl ?_
  refine loop (pz_ct t i) 0 h5 _ (by omega) hh5.1 (fun x hx h1 => ?_) (fun q hq => by rw [hh5.2 q hq, hh4.2 q hq, hh3.2 q hq])
  unfold pz_entJ pz_up
  by_cases x0 : x = 0
  · subst x0; rfl
  · by_cases x2 : x = 2
    · subst x2; rfl
    · by_cases x3 : x = 3
      · subst x3; rfl
      · by_cases x4 : x = 4
        · subst x4; rfl
        · by_cases x5 : x = 5
          · subst x5; rfl
          · rw [if_neg x5, if_neg x4, if_neg x3, if_neg x2, if_neg x0, if_neg x0, if_neg x2, if_neg x3, if_neg x4, if_neg x5, if_neg (by omega)]
