theorem i32_gt {c : Nat} {x : Int32} (hc : c + 1 < 2 ^ 31) (h : nI c < x) : nI (c + 1) ≤ x := by
  rw [Int32.lt_iff_toInt_lt, nI_toInt (by omega)] at h
  rw [Int32.le_iff_toInt_le, nI_toInt hc]
  omega
theorem i32_le {c : Nat} {x : Int32} (hc : c + 1 < 2 ^ 31) (h : x ≤ nI c) : ¬ nI (c + 1) ≤ x := by
  rw [Int32.le_iff_toInt_le, nI_toInt (by omega)] at h
  rw [Int32.le_iff_toInt_le, nI_toInt hc]
  omega
theorem blk_T {t : pz_T} {h : aw_H} {f j v : Nat} (hT : hz_T 4 t h) (hf : f < 8) (hj : j < 10) (hjc : j ≤ pz_ct t f) (hv : v < 65536) : hz_T 4 (pz_blk t f j v) (aw_u (aw_u (aw_u h (4 + 2 + 2 * f + 1) j (nI v)) (4 + 2 + 2 * f) 2 (nI (if j = pz_ct t f then j + 1 else pz_ct t f))) (4 + 2 + 2 * f) 4 (nI 1)) := fun i hi => by
  by_cases hid : i = f
  · subst hid
    obtain ⟨a1, a2, a3, a4, a5, a6, a7⟩ := hT i hi
    have e2 : pz_ct (pz_blk t i j v) i = (if j = pz_ct t i then j + 1 else pz_ct t i) := pz_up_s
    have e3 : pz_ch (pz_blk t i j v) i = true := pz_up_s
    unfold hz_N
    rw [e2, e3]
    refine ⟨aw_rd (by omega) (aw_rd (by omega) (aw_rd (by omega) a1)), aw_rd (by omega) aw_rs, aw_rd (by omega) (aw_rd (by omega) (aw_rd (by omega) a3)), aw_rs, a5, by split <;> omega, fun s hs => ?_⟩
    have e4 : pz_it (pz_blk t i j v) i s = pz_up (pz_it t i) j v s := by
      show pz_up (pz_it t) i (pz_up (pz_it t i) j v) i s = _
      rw [pz_up_s]
    rw [e4]
    by_cases hj2 : s = j
    · subst hj2
      rw [pz_up_s]
      exact ⟨aw_rd (by omega) (aw_rd (by omega) aw_rs), hv⟩
    · rw [pz_up_n hj2]
      obtain ⟨b1, b2⟩ := a7 s (by split at hs <;> omega)
      exact ⟨aw_rd (by omega) (aw_rd (by omega) (aw_rd (by omega) b1)), b2⟩
  · refine ((hT i hi).ext (t' := pz_blk t f j v) rfl (pz_up_n hid) (pz_up_n hid) rfl (fun s hs => ?_)).kept ?_ ?_
    · show pz_up (pz_it t) f _ i s = _
      rw [pz_up_n hid]
    · rw [aw_u_ne (by omega), aw_u_ne (by omega), aw_u_ne (by omega)]
    · rw [aw_u_ne (by omega), aw_u_ne (by omega), aw_u_ne (by omega)]
/-- a new sector that is no table leaves the tables as they were -/
theorem iz_sec {k : Nat} {w f : Nat → Nat} {b : Bool} (hi : iz k w) (hf : f 0 ≠ 3) : iz (k + 1) (pz_sec w k f b) := by
  intro p hp h3 i hi8
  by_cases hpk : p = k
  · subst hpk
    have h0 : pz_sec w p f b (16 * p + 0) = f 0 := pz_sec_new (by omega) (by omega)
    rw [Nat.add_zero] at h0
    rw [h0] at h3
    exact absurd h3 hf
  · rw [pz_sec_old (by omega)] at h3
    obtain ⟨h1, h2⟩ := hi p (by omega) h3 i hi8
    rw [pz_nm_old (by omega) hi8]
    refine ⟨h1, ?_⟩
    rcases h2 with h2 | h2
    · exact Or.inl h2
    · by_cases hz : pz_nm w p i = 0
      · exact Or.inl hz
      · refine Or.inr ?_
        rw [pz_sec_old (by omega)]
        exact h2
theorem p_write {l : Launch} {G : aw_G} (hG : gz G) {h : aw_H} {S : pz_S} (hS : cz G S h) (hI : pz_inv S) (file y v : Int32) : aw_F l G 6 Y_S_write [.inl (some 0), .inr file, .inr y, .inr v] h (fun r h' => r = .inr (pz_write S file y v).1 ∧ cz G (pz_write S file y v).2 h' ∧ ∀ q, 40 ≤ q → h' q = h q) := by
  obtain ⟨n, k, w, sp, t⟩ := S
  have hi := hI.iz
  obtain ⟨-, -, -, -, -, h0, hwf, -, -⟩ := hI
  have hS' := hS
  obtain ⟨hn, hm, hT⟩ := hS
  have hn : n = aw_n G := hn
  have hm : mz G k sp w h := hm
  have hT : hz_T 4 t h := hT
  have hwf : pz_wf k t := hwf
  have h0 : ∀ x, 16 * k ≤ x → w x = 0 := h0
  refine aw_met hG.1 (by decide) (Nat.le_of_ble_eq_true rfl) (fun M hM B E => ?_)
  show aw_X M G 6 0 [some (.inl (some 0)), some (.inr file), some (.inr y), some (.inr v), none, none] [] h
  have i0 := hG.is0
  have i1 := hG.is1
  have r0 : aw_rM 0 0 = some 1 := rfl
  have r1 : aw_rM 0 1 = some 4 := rfl
  have i4 := hG.t4.2.1
  have n2 := hG.2.2.2
  have e3 := hm.2.1
  have hkn := hm.2.2.2.1
  unfold pz_write at E
  refine ax_aload_n (q := 1) B d_S_write_0 rfl rfl rfl ?_
  refine ax_getP (q := 4) B fl_S_30 rfl d_S_write_1 (by assumption) (by assumption) rfl ?_
  refine ax_iload_n (q := 5) B d_S_write_4 rfl rfl rfl ?_
  refine ax_qV1 (q := 8) B cv_S_76 d_S_write_5 (by assumption) (Nat.le_of_ble_eq_true rfl) (by decide) (k_fileAt hG.1 hG.t4 hT file) rfl ?_
  cases hx : pz_nd t (fun c => c == 2) file with
  | none =>
    simp only [hx] at E
    refine ax_astore (q := 10) B d_S_write_8 (by decide) rfl ?_
    refine ax_aload (q := 12) B d_S_write_10 rfl rfl ?_
    refine ax_ifnull (q := 25) (q2 := 15) B d_S_write_12 rfl rfl (fun h12 => ?_) (fun _ h12 => ?_)
    · refine ax_iconst (v := (-1)) (q := 26) B d_S_write_25 ci_m1 rfl ?_
      refine ax_iret B E d_S_write_26 ?_
      exact ⟨_, rfl, rfl, hS', fun q _ => rfl⟩
    · cases h12
  | some f =>
    simp only [hx] at E
    obtain ⟨hf8, hk2, hfn⟩ := pz_nd_lt hx
    have hk2 : pz_kd t f = 2 := beq_iff_eq.mp hk2
    have hfile : file = nI f := by
      cases hsm : pz_small file 8 with
      | false => rw [pz_no_8 hsm] at hfn; omega
      | true =>
        obtain ⟨j, hj, rfl⟩ := pz_small_e (by omega) hsm
        rw [pz_no_N hj] at hfn
        rw [hfn]
    subst hfile
    have nf := (hG.t4.2.2.2.2 f hf8).2
    have jf := nf.1
    have hN := hT f hf8
    have e2 := hN.2.1
    have hc10 := hN.2.2.2.2.2.1
    show aw_X M G 6 8 [some (.inl (some 0)), some (.inr (nI f)), some (.inr y), some (.inr v), none, none] [.inl (some (4 + 2 + 2 * f))] h
    refine ax_astore (q := 10) B d_S_write_8 (by decide) rfl ?_
    refine ax_aload (q := 12) B d_S_write_10 rfl rfl ?_
    refine ax_ifnull (q := 25) (q2 := 15) B d_S_write_12 rfl rfl (fun z => by cases z) (fun _ _ => ?_)
    cases hv : pz_small v 65536 with
    | false =>
      simp only [hv, if_true] at E
      refine ax_iload_n (q := 16) B d_S_write_15 rfl rfl rfl ?_
      refine ax_if_lt (q := 25) (q2 := 19) B d_S_write_16 rfl rfl (fun h16 => ?_) (fun h16 => ?_)
      · refine ax_iconst (v := (-1)) (q := 26) B d_S_write_25 ci_m1 rfl ?_
        refine ax_iret B E d_S_write_26 ?_
        exact ⟨_, rfl, rfl, hS', fun q _ => rfl⟩
      · refine ax_iload_n (q := 20) B d_S_write_19 rfl rfl rfl ?_
        refine ax_ldc (v := nI 65535) (q := 22) B wc_S_79 d_S_write_20 rfl ?_
        refine ax_icmp_le (q := 27) (q2 := 25) B d_S_write_22 rfl rfl (fun h22 => ?_) (fun h22 => ?_)
        · rw [pz_small_t h16 (i32_le (by omega) h22)] at hv
          cases hv
        · refine ax_iconst (v := (-1)) (q := 26) B d_S_write_25 ci_m1 rfl ?_
          refine ax_iret B E d_S_write_26 ?_
          exact ⟨_, rfl, rfl, hS', fun q _ => rfl⟩
    | true =>
      simp only [hv, Bool.true_eq_false, if_false] at E
      obtain ⟨x, hx16, rfl⟩ := pz_small_e (by omega) hv
      rw [nI_clamp (by omega)] at E
      have tail1 : aw_X M G 6 27 [some (.inl (some 0)), some (.inr (nI f)), some (.inr y), some (.inr (nI x)), some (.inl (some (4 + 2 + 2 * f))), none] [] h := by
        cases hy1 : pz_small y (pz_ct t f + 1) with
        | false =>
          simp only [hy1, if_true] at E
          refine ax_iload_n (q := 28) B d_S_write_27 rfl rfl rfl ?_
          refine ax_if_lt (q := 46) (q2 := 31) B d_S_write_28 rfl rfl (fun h28 => ?_) (fun h28 => ?_)
          · refine ax_iconst (v := (-1)) (q := 47) B d_S_write_46 ci_m1 rfl ?_
            refine ax_iret B E d_S_write_47 ?_
            exact ⟨_, rfl, rfl, hS', fun q _ => rfl⟩
          · refine ax_iload_n (q := 32) B d_S_write_31 rfl rfl rfl ?_
            refine ax_aload (q := 34) B d_S_write_32 rfl rfl ?_
            refine ax_getN (q := 37) B fl_S_80 rfl d_S_write_34 (by assumption) (by first | assumption | rfl) rfl ?_
            refine ax_icmp_gt (q := 46) (q2 := 40) B d_S_write_37 rfl rfl (fun h37 => ?_) (fun h37 => ?_)
            · refine ax_iconst (v := (-1)) (q := 47) B d_S_write_46 ci_m1 rfl ?_
              refine ax_iret B E d_S_write_47 ?_
              exact ⟨_, rfl, rfl, hS', fun q _ => rfl⟩
            · refine ax_iload_n (q := 41) B d_S_write_40 rfl rfl rfl ?_
              refine ax_bipush (v := nI 10) (q := 43) B d_S_write_41 cb_10 rfl ?_
              refine ax_icmp_lt (q := 48) (q2 := 46) B d_S_write_43 rfl rfl (fun h43 => ?_) (fun h43 => ?_)
              · rw [pz_small_t h28 (i32_le (by omega) (by rw [Int32.le_iff_toInt_le]; rw [Int32.lt_iff_toInt_lt] at h37; omega))] at hy1
                cases hy1
              · refine ax_iconst (v := (-1)) (q := 47) B d_S_write_46 ci_m1 rfl ?_
                refine ax_iret B E d_S_write_47 ?_
                exact ⟨_, rfl, rfl, hS', fun q _ => rfl⟩
        | true =>
          simp only [hy1, Bool.true_eq_false, if_false] at E
          obtain ⟨j, hj, rfl⟩ := pz_small_e (by omega) hy1
          rw [nI_clamp (by omega)] at E
          by_cases hj10 : j < 10
          · simp only [pz_small_N (show (10 : Nat) < 2 ^ 31 by omega) hj10, Bool.true_eq_false, if_false] at E
            have hcw := pz_cw_one (ch := pz_ch t) hf8
            have hcp := pz_cp_le (pz_ch t) 8
            have hcl : pz_cw (pz_ch t) f 8 8 8 ≤ 100 := by rw [hcw]; split <;> omega
            have tail2 : ¬ aw_n G < k + 1 + pz_cw (pz_ch t) f 8 8 8 + 1 → aw_X M G 6 64 [some (.inl (some 0)), some (.inr (nI f)), some (.inr (nI j)), some (.inr (nI x)), some (.inl (some (4 + 2 + 2 * f))), none] [] h := by
              intro hfull
              rw [if_neg (by rw [hn]; exact hfull)] at E
              have hk : k < aw_n G := by omega
              refine ax_aload_n (q := 65) B d_S_write_64 rfl rfl rfl ?_
              refine ax_getP (q := 68) B fl_S_23 rfl d_S_write_65 (by assumption) (by assumption) rfl ?_
              refine ax_getN (q := 71) B fl_S_84 rfl d_S_write_68 (by assumption) (by first | assumption | rfl) rfl ?_
              refine ax_istore (q := 73) B d_S_write_71 (by decide) rfl ?_
              refine ax_aload_n (q := 74) B d_S_write_73 rfl rfl rfl ?_
              refine ax_getP (q := 77) B fl_S_23 rfl d_S_write_74 (by assumption) (by assumption) rfl ?_
              refine ax_iconst (v := nI 1) (q := 78) B d_S_write_77 ci_1 rfl ?_
              refine ax_iload_n (q := 79) B d_S_write_78 rfl rfl rfl ?_
              refine ax_pV2 (q := 82) B cv_S_87 d_S_write_79 (by assumption) (Nat.le_of_ble_eq_true rfl) (by decide) (kk_begin hG hm hk h0 (by omega) (by omega)) rfl (fun h1 hh1 => ?_)
              refine ax_aload_n (q := 83) B d_S_write_82 rfl rfl rfl ?_
              refine ax_getP (q := 86) B fl_S_23 rfl d_S_write_83 (by assumption) (by assumption) rfl ?_
              refine ax_iconst (v := nI 4) (q := 87) B d_S_write_86 ci_4 rfl ?_
              refine ax_iload_n (q := 88) B d_S_write_87 rfl rfl rfl ?_
              refine ax_pV2 (q := 91) B cv_S_90 d_S_write_88 (by assumption) (Nat.le_of_ble_eq_true rfl) (by decide) (kk_put hG hh1.1 (by omega) hx16) rfl (fun h2 hh2 => ?_)
              have hdat : ∀ i, i < 16 → i ≠ 1 → pz_up (pz_up (pz_up (pz_up (fun _ => 0) 0 1) 2 k) 3 f) 4 x i = pz_data k f x i := fun i hi16 hi1 => by
                unfold pz_data pz_up
                by_cases x0 : i = 0
                · subst x0; rfl
                · by_cases x2 : i = 2
                  · subst x2; rfl
                  · by_cases x3 : i = 3
                    · subst x3; rfl
                    · by_cases x4 : i = 4
                      · subst x4; rfl
                      · rw [if_neg x4, if_neg x3, if_neg x2, if_neg x0, if_neg x0, if_neg x2, if_neg x3, if_neg x4]
              refine ax_aload_n (q := 92) B d_S_write_91 rfl rfl rfl ?_
              refine ax_getP (q := 95) B fl_S_23 rfl d_S_write_92 (by assumption) (by assumption) rfl ?_
              refine ax_gV0 (q := 98) B cv_S_93 d_S_write_95 (by assumption) (Nat.le_of_ble_eq_true rfl) (by decide) (kk_finish hG hh2.1) rfl (fun r h3 hh3 => ?_)
              obtain ⟨rfl, hm3, hf3⟩ := hh3
              rw [pz_sec_congr hdat] at hm3
              have hf4 : ∀ q, 4 ≤ q → h3 q = h q := fun q hq => by rw [hf3 q (by omega), hh2.2 q (by omega), hh1.2 q (by omega)]
              have hT3 : hz_T 4 t h3 := hT.kept (fun q q1 q2 => hf4 q (by omega))
              by_cases hsp : sp = 1
              · subst hsp
                rw [if_pos rfl] at E
                refine ax_ifZ_ne (q := 108) (q2 := 101) B d_S_write_98 rfl rfl (fun z => absurd z (by decide)) (fun _ => ?_)
                refine ax_aload_n (q := 102) B d_S_write_101 rfl rfl rfl ?_
                refine ax_pV0 (q := 105) B cv_S_97 d_S_write_102 (by assumption) (Nat.le_of_ble_eq_true rfl) (by decide) (k_readBack hG hm3 (iz_sec hi (by show (1 : Nat) ≠ 3; omega))) rfl (fun h4 hh4 => ?_)
                refine ax_bipush (v := (-5)) (q := 107) B d_S_write_105 cb_m5 rfl ?_
                refine ax_iret B E d_S_write_107 ?_
                exact ⟨_, rfl, rfl, ⟨hn, hm3.kept (hh4.2 1 (by omega)) (hh4.2 2 (by omega)) (hh4.2 3 (by omega)), hh4.1⟩, fun q hq => by rw [hh4.2 q (by omega), hf4 q (by omega)]⟩
              · rw [if_neg hsp] at E
                rw [pz_beq_ne hsp] at hm3
                refine ax_ifZ_ne (q := 108) (q2 := 101) B d_S_write_98 rfl rfl (fun _ => ?_) (fun z => by rw [decide_eq_true hsp] at z; cases z)
                refine ax_aload (q := 110) B d_S_write_108 rfl rfl ?_
                refine ax_iload_n (q := 111) B d_S_write_110 rfl rfl rfl ?_
                refine ax_iload (q := 113) B d_S_write_111 rfl rfl ?_
                refine ax_pV2 (q := 116) B cv_S_100 d_S_write_113 (by assumption) (Nat.le_of_ble_eq_true rfl) (by decide) (k_setBlock hG.1 nf (hT3 f hf8).2.1 hc10 hj10 (by omega) _) rfl (fun h4 hh4 => ?_)
                have hT4 : hz_T 4 (pz_blk t f j k) h4 := by rw [hh4]; exact blk_T hT3 hf8 hj10 (by omega) (by omega)
                have hf5 : ∀ q, q < 6 ∨ 22 ≤ q → h4 q = h3 q := fun q hq => by rw [hh4, aw_u_ne (by omega), aw_u_ne (by omega), aw_u_ne (by omega)]
                refine ax_iload (q := 118) B d_S_write_116 rfl rfl ?_
                refine ax_iret B E d_S_write_118 ?_
                exact ⟨_, rfl, rfl, ⟨hn, hm3.kept (hf5 1 (by omega)) (hf5 2 (by omega)) (hf5 3 (by omega)), hT4⟩, fun q hq => by rw [hf5 q (by omega), hf4 q (by omega)]⟩
            refine ax_iload_n (q := 28) B d_S_write_27 rfl rfl rfl ?_
            refine ax_ifN_lt (q := 46) (q2 := 31) B (by omega) d_S_write_28 rfl rfl ?_
            refine ax_iload_n (q := 32) B d_S_write_31 rfl rfl rfl ?_
            refine ax_aload (q := 34) B d_S_write_32 rfl rfl ?_
            refine ax_getN (q := 37) B fl_S_80 rfl d_S_write_34 (by assumption) (by first | assumption | rfl) rfl ?_
            refine ax_icmpN_gt (q := 46) (q2 := 40) B (by omega) (by omega) d_S_write_37 rfl rfl (fun h37 => ?_) (fun h37 => ?_)
            · omega
            · refine ax_iload_n (q := 41) B d_S_write_40 rfl rfl rfl ?_
              refine ax_bipush (v := nI 10) (q := 43) B d_S_write_41 cb_10 rfl ?_
              refine ax_icmpN_lt (q := 48) (q2 := 46) B (by omega) (by omega) d_S_write_43 rfl rfl (fun h43 => ?_) (fun h43 => ?_)
              · refine ax_aload_n (q := 49) B d_S_write_48 rfl rfl rfl ?_
                refine ax_iconst (v := nI 1) (q := 50) B d_S_write_49 ci_1 rfl ?_
                refine ax_aload (q := 52) B d_S_write_50 rfl rfl ?_
                refine ax_qV0 (q := 55) B cv_S_58 d_S_write_52 (by assumption) (Nat.le_of_ble_eq_true rfl) (by decide) (k_ifUnchanged hG.1 nf hN.2.2.2.1) rfl ?_
                refine ax_qV2 (q := 58) B cv_S_61 d_S_write_55 (by assumption) (Nat.le_of_ble_eq_true rfl) (by decide) (k_isTooFull hG hm hT (c := pz_cw (pz_ch t) f 8 8 8) (by omega) hcl (by rw [nI_add]; congr 1; exact hcw.symm)) rfl ?_
                refine ax_ifZ_eq (q := 64) (q2 := 61) B d_S_write_58 rfl rfl (fun h58 => ?_) (fun h58 => ?_)
                · exact tail2 (of_decide_eq_false h58)
                · rw [if_pos (by rw [hn]; exact of_decide_eq_true h58)] at E
                  refine ax_bipush (v := (-4)) (q := 63) B d_S_write_61 cb_m4 rfl ?_
                  refine ax_iret B E d_S_write_63 ?_
                  exact ⟨_, rfl, rfl, hS', fun q _ => rfl⟩
              · omega
          · have hsm : pz_small (nI j) 10 = false := pz_small_2 (nI_le (by omega) (by omega))
            simp only [hsm, if_true] at E
            refine ax_iload_n (q := 28) B d_S_write_27 rfl rfl rfl ?_
            refine ax_ifN_lt (q := 46) (q2 := 31) B (by omega) d_S_write_28 rfl rfl ?_
            refine ax_iload_n (q := 32) B d_S_write_31 rfl rfl rfl ?_
            refine ax_aload (q := 34) B d_S_write_32 rfl rfl ?_
            refine ax_getN (q := 37) B fl_S_80 rfl d_S_write_34 (by assumption) (by first | assumption | rfl) rfl ?_
            refine ax_icmpN_gt (q := 46) (q2 := 40) B (by omega) (by omega) d_S_write_37 rfl rfl (fun h37 => ?_) (fun h37 => ?_)
            · refine ax_iconst (v := (-1)) (q := 47) B d_S_write_46 ci_m1 rfl ?_
              refine ax_iret B E d_S_write_47 ?_
              exact ⟨_, rfl, rfl, hS', fun q _ => rfl⟩
            · refine ax_iload_n (q := 41) B d_S_write_40 rfl rfl rfl ?_
              refine ax_bipush (v := nI 10) (q := 43) B d_S_write_41 cb_10 rfl ?_
              refine ax_icmpN_lt (q := 48) (q2 := 46) B (by omega) (by omega) d_S_write_43 rfl rfl (fun h43 => ?_) (fun h43 => ?_)
              · omega
              · refine ax_iconst (v := (-1)) (q := 47) B d_S_write_46 ci_m1 rfl ?_
                refine ax_iret B E d_S_write_47 ?_
                exact ⟨_, rfl, rfl, hS', fun q _ => rfl⟩
      refine ax_iload_n (q := 16) B d_S_write_15 rfl rfl rfl ?_
      refine ax_ifN_lt (q := 25) (q2 := 19) B (by omega) d_S_write_16 rfl rfl ?_
      refine ax_iload_n (q := 20) B d_S_write_19 rfl rfl rfl ?_
      refine ax_ldc (v := nI 65535) (q := 22) B wc_S_79 d_S_write_20 rfl ?_
      refine ax_icmpN_le (q := 27) (q2 := 25) B (by omega) (by omega) d_S_write_22 rfl rfl (fun h22 => ?_) (fun h22 => ?_)
      · exact tail1
      · omega
