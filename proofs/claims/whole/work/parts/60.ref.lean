theorem rblk {t : pz_T} {h : aw_H} {f j v : Nat} (hT : rt t h) (hf : f < 8) (hj : j < 10) (hjc : j ≤ pz_ct t f) (hv : v < 65536) : rt (pz_blk t f j v) (aw_u (aw_u (aw_u h 44 (10 * f + j) (nI v)) 43 f (nI (if j = pz_ct t f then j + 1 else pz_ct t f))) 45 f (nI 1)) := fun i hi => by
  obtain ⟨b1, b2, b3, b4, b5, b6, b7⟩ := hT i hi
  by_cases hid : i = f
  · subst hid
    have q2 : pz_ct (pz_blk t i j v) i = (if j = pz_ct t i then j + 1 else pz_ct t i) := pz_up_s
    have q3 : pz_ch (pz_blk t i j v) i = true := pz_up_s
    unfold rtN
    rw [q2, q3]
    refine ⟨aw_rd (by omega) (aw_rd (by omega) (aw_rd (by omega) b1)), aw_rd (by omega) aw_rs, aw_rs, b4, by split <;> omega, fun s hs => ?_, fun _ z => by cases z⟩
    have q4 : pz_it (pz_blk t i j v) i s = pz_up (pz_it t i) j v s := by
      show pz_up (pz_it t) i (pz_up (pz_it t i) j v) i s = _
      rw [pz_up_s]
    rw [q4]
    by_cases hj2 : s = j
    · subst hj2
      rw [pz_up_s]
      exact ⟨aw_rd (by omega) (aw_rd (by omega) aw_rs), hv⟩
    · rw [pz_up_n hj2]
      have hs2 : s < pz_ct t i := by split at hs <;> omega
      exact ⟨aw_rd (by omega) (aw_rd (by omega) (aw_rd (by omega) (b6 s hs2).1)), (b6 s hs2).2⟩
  · have q2 : pz_ct (pz_blk t f j v) i = pz_ct t i := pz_up_n hid
    have q3 : pz_ch (pz_blk t f j v) i = pz_ch t i := pz_up_n hid
    have q4 : ∀ s, pz_it (pz_blk t f j v) i s = pz_it t i s := fun s => by
      show pz_up (pz_it t) f _ i s = _
      rw [pz_up_n hid]
    unfold rtN
    rw [q2, q3]
    exact ⟨aw_rd (by omega) (aw_rd (by omega) (aw_rd (by omega) b1)), aw_rd (by omega) (aw_rd (by omega) (aw_rd (by omega) b2)), aw_rd (by omega) (aw_rd (by omega) (aw_rd (by omega) b3)), b4, b5, fun s hs => by rw [q4 s]; exact ⟨aw_rd (by omega) (aw_rd (by omega) (aw_rd (by omega) (b6 s hs).1)), (b6 s hs).2⟩, fun z1 z2 => aw_rd (by omega) (aw_rd (by omega) (aw_rd (by omega) (b7 z1 z2)))⟩
theorem pz_cw_100 (ch : Nat → Bool) (a b g : Nat) : pz_cw ch a b g 8 ≤ 100 := by
  have := pz_cp_le (fun n => (ch n || n == a || n == b) && n != g) 8
  unfold pz_cw
  omega
theorem q_write {l : Launch} {G : aw_G} (hG : gr G) {h : aw_H} {S : pz_S} (hS : qz G S h) (hI : pz_inv S) (file y v : Int32) : aw_F l G 7 Y_R_write [.inl (some 40), .inr file, .inr y, .inr v] h (fun r h' => r = .inr (pz_write S file y v).1 ∧ qz G (pz_write S file y v).2 h' ∧ ∀ q, q < 40 → h' q = h q) := by
  obtain ⟨n, k, w, sp, t⟩ := S
  have hi := hI.iz
  have hS' := hS
  obtain ⟨hn, hw, hm, hT⟩ := hS
  have hn : n = aw_n G := hn
  have hw : rw_ w h := hw
  have hm : rm_ G k sp h := hm
  have hT : rt t h := hT
  have n2 := hG.1.2.2.2
  refine aw_met hG.1.1 (by decide) (Nat.le_of_ble_eq_true rfl) (fun M hM B E => ?_)
  show aw_X M G 6 0 [some (.inl (some 40)), some (.inr file), some (.inr y), some (.inr v), none, none] [] h
  have i40 := hG.i40
  have a43 := hG.a43
  have a44 := hG.a44
  have a45 := hG.a45
  have a50 := hG.a50
  have r6 : aw_rM 40 6 = some 43 := rfl
  have r7 : aw_rM 40 7 = some 44 := rfl
  have r8 : aw_rM 40 8 = some 45 := rfl
  have r13 : aw_rM 40 13 = some 50 := rfl
  have e2 := hm.2.1
  unfold pz_write at E
  refine ax_aload_n (q := 1) B d_R_write_0 rfl rfl rfl ?_
  refine ax_iload_n (q := 2) B d_R_write_1 rfl rfl rfl ?_
  refine ax_iconst (v := nI 2) (q := 3) B d_R_write_2 ci_2 rfl ?_
  refine ax_qV2 (q := 6) B cv_R_96 d_R_write_3 (by assumption) (Nat.le_of_ble_eq_true rfl) (by decide) (r_isKind hG hT file (by omega)) rfl ?_
  cases hx : pz_nd t (fun c => c == 2) file with
  | none =>
    simp only [hx] at E
    refine ax_ifZ_eq (q := 39) (q2 := 9) B d_R_write_6 rfl rfl (fun h6 => ?_) (fun h6 => ?_)
    · refine ax_iconst (v := (-1)) (q := 40) B d_R_write_39 ci_m1 rfl ?_
      refine ax_iret B E d_R_write_40 ?_
      exact ⟨_, rfl, rfl, hS', fun q _ => rfl⟩
    · cases h6
  | some f =>
    simp only [hx] at E
    obtain ⟨hf8, hk2, -⟩ := pz_nd_lt hx
    have ea := pz_nd_arg hx
    subst ea
    obtain ⟨-, ec, -, -, hc10, -, -⟩ := hT f hf8
    refine ax_ifZ_eq (q := 39) (q2 := 9) B d_R_write_6 rfl rfl (fun z => by cases z) (fun _ => ?_)
    cases hv : pz_small v 65536 with
    | false =>
      simp only [hv, if_true] at E
      refine ax_iload_n (q := 10) B d_R_write_9 rfl rfl rfl ?_
      refine ax_if_lt (q := 39) (q2 := 13) B d_R_write_10 rfl rfl (fun h10 => ?_) (fun h10 => ?_)
      · refine ax_iconst (v := (-1)) (q := 40) B d_R_write_39 ci_m1 rfl ?_
        refine ax_iret B E d_R_write_40 ?_
        exact ⟨_, rfl, rfl, hS', fun q _ => rfl⟩
      · refine ax_iload_n (q := 14) B d_R_write_13 rfl rfl rfl ?_
        refine ax_ldc (v := nI 65535) (q := 16) B wc_R_53 d_R_write_14 rfl ?_
        refine ax_icmp_gt (q := 39) (q2 := 19) B d_R_write_16 rfl rfl (fun h16 => ?_) (fun h16 => ?_)
        · refine ax_iconst (v := (-1)) (q := 40) B d_R_write_39 ci_m1 rfl ?_
          refine ax_iret B E d_R_write_40 ?_
          exact ⟨_, rfl, rfl, hS', fun q _ => rfl⟩
        · rw [pz_small_t h10 (fun z => h16 (by rw [Int32.le_iff_toInt_le, nI_toInt (by omega)] at z; rw [Int32.lt_iff_toInt_lt, nI_toInt (by omega)]; omega))] at hv
          cases hv
    | true =>
      simp only [hv, Bool.true_eq_false, if_false] at E
      obtain ⟨x, hx16, rfl⟩ := pz_small_e (by omega) hv
      rw [nI_clamp (by omega)] at E
      have tail1 : aw_X M G 6 19 [some (.inl (some 40)), some (.inr (nI f)), some (.inr y), some (.inr (nI x)), none, none] [] h := by
        cases hy1 : pz_small y (pz_ct t f + 1) with
        | false =>
          simp only [hy1, if_true] at E
          refine ax_iload_n (q := 20) B d_R_write_19 rfl rfl rfl ?_
          refine ax_if_lt (q := 39) (q2 := 23) B d_R_write_20 rfl rfl (fun h20 => ?_) (fun h20 => ?_)
          · refine ax_iconst (v := (-1)) (q := 40) B d_R_write_39 ci_m1 rfl ?_
            refine ax_iret B E d_R_write_40 ?_
            exact ⟨_, rfl, rfl, hS', fun q _ => rfl⟩
          · refine ax_iload_n (q := 24) B d_R_write_23 rfl rfl rfl ?_
            refine ax_aload_n (q := 25) B d_R_write_24 rfl rfl rfl ?_
            refine ax_getP (q := 28) B fl_R_16 rfl d_R_write_25 (by assumption) (by assumption) rfl ?_
            refine ax_iload_n (q := 29) B d_R_write_28 rfl rfl rfl ?_
            refine ax_ialdN (q := 30) B d_R_write_29 (by assumption) rfl (by omega) (by omega) (by first | assumption | rfl) rfl ?_
            refine ax_icmp_gt (q := 39) (q2 := 33) B d_R_write_30 rfl rfl (fun h30 => ?_) (fun h30 => ?_)
            · refine ax_iconst (v := (-1)) (q := 40) B d_R_write_39 ci_m1 rfl ?_
              refine ax_iret B E d_R_write_40 ?_
              exact ⟨_, rfl, rfl, hS', fun q _ => rfl⟩
            · rw [pz_small_t h20 (i32_le (by omega) (by rw [Int32.le_iff_toInt_le]; rw [Int32.lt_iff_toInt_lt] at h30; omega))] at hy1
              cases hy1
        | true =>
          simp only [hy1, Bool.true_eq_false, if_false] at E
          obtain ⟨j, hj, rfl⟩ := pz_small_e (by omega) hy1
          rw [nI_clamp (by omega)] at E
          by_cases hj10 : j < 10
          · simp only [pz_small_N (show (10 : Nat) < 2 ^ 31 by omega) hj10, Bool.true_eq_false, if_false] at E
            have hcl := pz_cw_100 (pz_ch t) f 8 8
            have hC := r_changedWith (l := M.2.1) hG hT (a := f) (b := 8) (g := 8) (by omega) (by omega) (by omega)
            rw [eI_N hf8, eI_8] at hC
            have tail2 : ¬ aw_n G < k + 1 + pz_cw (pz_ch t) f 8 8 8 + 1 → ∀ u, aw_X M G 6 63 [some (.inl (some 40)), some (.inr (nI f)), some (.inr (nI j)), some (.inr (nI x)), u, none] [] h := by
              intro hfull u
              rw [if_neg (by rw [hn]; exact hfull)] at E
              have hk : k < aw_n G := by omega
              refine ax_aload_n (q := 64) B d_R_write_63 rfl rfl rfl ?_
              refine ax_getN (q := 67) B fl_R_66 rfl d_R_write_64 (by assumption) (by first | assumption | rfl) rfl ?_
              refine ax_istore (q := 69) B d_R_write_67 (by decide) rfl ?_
              refine ax_aload_n (q := 70) B d_R_write_69 rfl rfl rfl ?_
              refine ax_iconst (v := nI 1) (q := 71) B d_R_write_70 ci_1 rfl ?_
              refine ax_iload_n (q := 72) B d_R_write_71 rfl rfl rfl ?_
              refine ax_pV2 (q := 75) B cv_R_114 d_R_write_72 (by assumption) (Nat.le_of_ble_eq_true rfl) (by decide) (r_clearSector hG e2 (by omega) (by omega) (by omega)) rfl (fun h1 hh1 => ?_)
              refine ax_aload_n (q := 76) B d_R_write_75 rfl rfl rfl ?_
              refine ax_getP (q := 79) B fl_R_38 rfl d_R_write_76 (by assumption) (by assumption) rfl ?_
              refine ax_iconst (v := nI 4) (q := 80) B d_R_write_79 ci_4 rfl ?_
              refine ax_iload_n (q := 81) B d_R_write_80 rfl rfl rfl ?_
              refine ax_iastN (q := 82) B d_R_write_81 (by assumption) rfl (by omega) (by omega) rfl ?_
              obtain ⟨h2, hh2⟩ : ∃ h2, h2 = aw_u h1 50 4 (nI x) := ⟨_, rfl⟩
              have hsec : secz (pz_up (pz_hdr 1 k f) 4 x) h2 := by rw [hh2]; exact hh1.1.put hx16
              have hf2 : ∀ q, q ≠ 50 → h2 q = h q := fun q hq => by rw [hh2, aw_u_ne hq, hh1.2 q hq]
              rw [← hh2]
              have hdat : ∀ i, i < 16 → i ≠ 1 → pz_up (pz_hdr 1 k f) 4 x i = pz_data k f x i := fun i hi16 hi1 => by
                unfold pz_data pz_up pz_hdr
                by_cases x4 : i = 4
                · subst x4; rfl
                · rw [if_neg x4, if_neg x4]
              refine ax_aload_n (q := 83) B d_R_write_82 rfl rfl rfl ?_
              refine ax_gV0 (q := 86) B cv_R_117 d_R_write_83 (by assumption) (Nat.le_of_ble_eq_true rfl) (by decide) (r_writeSector hG (hw.kept (hf2 41 (by omega))) (hm.kept (hf2 40 (by omega))) hsec hk (iz_sec hi (by show (1 : Nat) ≠ 3; omega))) rfl (fun r h3 hh3 => ?_)
              obtain ⟨rfl, hw3, hm3, hb3, hf3, hf4⟩ := hh3
              rw [pz_sec_congr hdat] at hw3 hb3
              have fr3 : ∀ q, q < 40 → h3 q = h q := fun q hq => by rw [hf4 q hq, hf2 q (by omega)]
              by_cases hsp : sp = 1
              · subst hsp
                rw [if_pos rfl] at E
                refine ax_ifZ_ne (q := 92) (q2 := 89) B d_R_write_86 rfl rfl (fun z => absurd z (by decide)) (fun _ => ?_)
                refine ax_bipush (v := (-5)) (q := 91) B d_R_write_89 cb_m5 rfl ?_
                refine ax_iret B E d_R_write_91 ?_
                exact ⟨_, rfl, rfl, ⟨hn, hw3, hm3, hb3 rfl⟩, fr3⟩
              · rw [if_neg hsp] at E
                rw [pz_beq_ne hsp] at hw3
                have hf3 := hf3 hsp
                have hT3 : rt t h3 := hT.kept (fun q q1 q2 => by rw [hf3 q (by omega), hf2 q (by omega)])
                have ec3 := (hT3 f hf8).2.1
                have ec4 : ∀ z, aw_u h3 44 z (nI k) 43 f = nI (pz_ct t f) := fun z => aw_rd (by omega) ec3
                have hT4 := rblk hT3 hf8 hj10 (by omega) (show k < 65536 by omega)
                have tail5 : ∀ c : Nat, (if j = pz_ct t f then j + 1 else pz_ct t f) = c → ∀ u, aw_X M G 6 132 [some (.inl (some 40)), some (.inr (nI f)), some (.inr (nI j)), some (.inr (nI x)), u, some (.inr (nI k))] [.inr (nI c), .inr (nI f), .inl (some 43)] (aw_u h3 44 (10 * f + j) (nI k)) := by
                  intro c hcc u
                  rw [hcc] at hT4
                  refine ax_iastN (q := 133) B d_R_write_132 (by assumption) rfl (by omega) (by omega) rfl ?_
                  refine ax_aload_n (q := 134) B d_R_write_133 rfl rfl rfl ?_
                  refine ax_getP (q := 137) B fl_R_22 rfl d_R_write_134 (by assumption) (by assumption) rfl ?_
                  refine ax_iload_n (q := 138) B d_R_write_137 rfl rfl rfl ?_
                  refine ax_iconst (v := nI 1) (q := 139) B d_R_write_138 ci_1 rfl ?_
                  refine ax_zastN (q := 140) B d_R_write_139 (by assumption) rfl (by omega) (by omega) (by first | exact bI_or _ | decide) rfl ?_
                  refine ax_iload (q := 142) B d_R_write_140 rfl rfl ?_
                  refine ax_iret B E d_R_write_142 ?_
                  exact ⟨_, rfl, rfl, ⟨hn, hw3.kept (by rw [aw_u_ne (by omega), aw_u_ne (by omega), aw_u_ne (by omega)]), hm3.kept (by rw [aw_u_ne (by omega), aw_u_ne (by omega), aw_u_ne (by omega)]), hT4⟩, fun q hq => by rw [aw_u_ne (by omega), aw_u_ne (by omega), aw_u_ne (by omega), fr3 q hq]⟩
                refine ax_ifZ_ne (q := 92) (q2 := 89) B d_R_write_86 rfl rfl (fun _ => ?_) (fun z => by rw [decide_eq_true hsp] at z; cases z)
                refine ax_aload_n (q := 93) B d_R_write_92 rfl rfl rfl ?_
                refine ax_getP (q := 96) B fl_R_19 rfl d_R_write_93 (by assumption) (by assumption) rfl ?_
                refine ax_bipush (v := nI 10) (q := 98) B d_R_write_96 cb_10 rfl ?_
                refine ax_iload_n (q := 99) B d_R_write_98 rfl rfl rfl ?_
                first | refine ax_imulN (q := 100) B d_R_write_99 rfl ?_ | refine ax_imul (q := 100) B d_R_write_99 rfl ?_
                refine ax_iload_n (q := 101) B d_R_write_100 rfl rfl rfl ?_
                first | refine ax_iaddN (q := 102) B d_R_write_101 rfl ?_ | refine ax_iadd (q := 102) B d_R_write_101 rfl ?_
                refine ax_iload (q := 104) B d_R_write_102 rfl rfl ?_
                refine ax_iastN (q := 105) B d_R_write_104 (by assumption) rfl (by omega) (by omega) rfl ?_
                refine ax_aload_n (q := 106) B d_R_write_105 rfl rfl rfl ?_
                refine ax_getP (q := 109) B fl_R_16 rfl d_R_write_106 (by assumption) (by assumption) rfl ?_
                refine ax_iload_n (q := 110) B d_R_write_109 rfl rfl rfl ?_
                refine ax_iload_n (q := 111) B d_R_write_110 rfl rfl rfl ?_
                refine ax_aload_n (q := 112) B d_R_write_111 rfl rfl rfl ?_
                refine ax_getP (q := 115) B fl_R_16 rfl d_R_write_112 (by assumption) (by assumption) rfl ?_
                refine ax_iload_n (q := 116) B d_R_write_115 rfl rfl rfl ?_
                refine ax_ialdN (q := 117) B d_R_write_116 (by assumption) rfl (by omega) (by omega) (ec4 _) rfl ?_
                refine ax_icmpN_ne (q := 126) (q2 := 120) B (by omega) (by omega) d_R_write_117 rfl rfl (fun h117 => ?_) (fun h117 => ?_)
                · refine ax_aload_n (q := 127) B d_R_write_126 rfl rfl rfl ?_
                  refine ax_getP (q := 130) B fl_R_16 rfl d_R_write_127 (by assumption) (by assumption) rfl ?_
                  refine ax_iload_n (q := 131) B d_R_write_130 rfl rfl rfl ?_
                  refine ax_ialdN (q := 132) B d_R_write_131 (by assumption) rfl (by omega) (by omega) (ec4 _) rfl ?_
                  first | exact tail5 _ (by rw [if_neg h117]) _ | exact tail5 _ (by rw [if_pos h117]) _
                · refine ax_iload_n (q := 121) B d_R_write_120 rfl rfl rfl ?_
                  refine ax_iconst (v := nI 1) (q := 122) B d_R_write_121 ci_1 rfl ?_
                  first | refine ax_iaddN (q := 123) B d_R_write_122 rfl ?_ | refine ax_iadd (q := 123) B d_R_write_122 rfl ?_
                  refine ax_goto (q := 132) B d_R_write_123 rfl ?_
                  first | exact tail5 _ (by rw [if_neg h117]) _ | exact tail5 _ (by rw [if_pos h117]) _
            refine ax_iload_n (q := 20) B d_R_write_19 rfl rfl rfl ?_
            refine ax_ifN_lt (q := 39) (q2 := 23) B (by omega) d_R_write_20 rfl rfl ?_
            refine ax_iload_n (q := 24) B d_R_write_23 rfl rfl rfl ?_
            refine ax_aload_n (q := 25) B d_R_write_24 rfl rfl rfl ?_
            refine ax_getP (q := 28) B fl_R_16 rfl d_R_write_25 (by assumption) (by assumption) rfl ?_
            refine ax_iload_n (q := 29) B d_R_write_28 rfl rfl rfl ?_
            refine ax_ialdN (q := 30) B d_R_write_29 (by assumption) rfl (by omega) (by omega) (by first | assumption | rfl) rfl ?_
            refine ax_icmpN_gt (q := 39) (q2 := 33) B (by omega) (by omega) d_R_write_30 rfl rfl (fun h30 => ?_) (fun h30 => ?_)
            · omega
            · refine ax_iload_n (q := 34) B d_R_write_33 rfl rfl rfl ?_
              refine ax_bipush (v := nI 9) (q := 36) B d_R_write_34 cb_9 rfl ?_
              refine ax_icmpN_le (q := 41) (q2 := 39) B (by omega) (by omega) d_R_write_36 rfl rfl (fun h36 => ?_) (fun h36 => ?_)
              · refine ax_aload_n (q := 42) B d_R_write_41 rfl rfl rfl ?_
                refine ax_iload_n (q := 43) B d_R_write_42 rfl rfl rfl ?_
                refine ax_iconst (v := (-1)) (q := 44) B d_R_write_43 ci_m1 rfl ?_
                refine ax_iconst (v := (-1)) (q := 45) B d_R_write_44 ci_m1 rfl ?_
                refine ax_qV3 (q := 48) B cv_R_103 d_R_write_45 (by assumption) (Nat.le_of_ble_eq_true rfl) (by decide) hC rfl ?_
                refine ax_istore (q := 50) B d_R_write_48 (by decide) rfl ?_
                refine ax_aload_n (q := 51) B d_R_write_50 rfl rfl rfl ?_
                refine ax_iconst (v := nI 1) (q := 52) B d_R_write_51 ci_1 rfl ?_
                refine ax_iload (q := 54) B d_R_write_52 rfl rfl ?_
                refine ax_qV2 (q := 57) B cv_R_107 d_R_write_54 (by assumption) (Nat.le_of_ble_eq_true rfl) (by decide) (r_tooFew hG hm.1 hm.2.1 n2 hm.2.2.1 (by omega) hcl) rfl ?_
                refine ax_ifZ_eq (q := 63) (q2 := 60) B d_R_write_57 rfl rfl (fun h57 => ?_) (fun h57 => ?_)
                · exact tail2 (of_decide_eq_false h57) _
                · rw [if_pos (by rw [hn]; exact of_decide_eq_true h57)] at E
                  refine ax_bipush (v := (-4)) (q := 62) B d_R_write_60 cb_m4 rfl ?_
                  refine ax_iret B E d_R_write_62 ?_
                  exact ⟨_, rfl, rfl, hS', fun q _ => rfl⟩
              · omega
          · have hsm : pz_small (nI j) 10 = false := pz_small_2 (nI_le (by omega) (by omega))
            simp only [hsm, if_true] at E
            refine ax_iload_n (q := 20) B d_R_write_19 rfl rfl rfl ?_
            refine ax_ifN_lt (q := 39) (q2 := 23) B (by omega) d_R_write_20 rfl rfl ?_
            refine ax_iload_n (q := 24) B d_R_write_23 rfl rfl rfl ?_
            refine ax_aload_n (q := 25) B d_R_write_24 rfl rfl rfl ?_
            refine ax_getP (q := 28) B fl_R_16 rfl d_R_write_25 (by assumption) (by assumption) rfl ?_
            refine ax_iload_n (q := 29) B d_R_write_28 rfl rfl rfl ?_
            refine ax_ialdN (q := 30) B d_R_write_29 (by assumption) rfl (by omega) (by omega) (by first | assumption | rfl) rfl ?_
            refine ax_icmpN_gt (q := 39) (q2 := 33) B (by omega) (by omega) d_R_write_30 rfl rfl (fun h30 => ?_) (fun h30 => ?_)
            · refine ax_iconst (v := (-1)) (q := 40) B d_R_write_39 ci_m1 rfl ?_
              refine ax_iret B E d_R_write_40 ?_
              exact ⟨_, rfl, rfl, hS', fun q _ => rfl⟩
            · refine ax_iload_n (q := 34) B d_R_write_33 rfl rfl rfl ?_
              refine ax_bipush (v := nI 9) (q := 36) B d_R_write_34 cb_9 rfl ?_
              refine ax_icmpN_le (q := 41) (q2 := 39) B (by omega) (by omega) d_R_write_36 rfl rfl (fun h36 => ?_) (fun h36 => ?_)
              · omega
              · refine ax_iconst (v := (-1)) (q := 40) B d_R_write_39 ci_m1 rfl ?_
                refine ax_iret B E d_R_write_40 ?_
                exact ⟨_, rfl, rfl, hS', fun q _ => rfl⟩
      refine ax_iload_n (q := 10) B d_R_write_9 rfl rfl rfl ?_
      refine ax_ifN_lt (q := 39) (q2 := 13) B (by omega) d_R_write_10 rfl rfl ?_
      refine ax_iload_n (q := 14) B d_R_write_13 rfl rfl rfl ?_
      refine ax_ldc (v := nI 65535) (q := 16) B wc_R_53 d_R_write_14 rfl ?_
      refine ax_icmpN_gt (q := 39) (q2 := 19) B (by omega) (by omega) d_R_write_16 rfl rfl (fun h16 => ?_) (fun h16 => ?_)
      · omega
      · exact tail1
theorem q_remove {l : Launch} {G : aw_G} (hG : gr G) {h : aw_H} {S : pz_S} (hS : qz G S h) (hI : pz_inv S) (dir name : Int32) : aw_F l G 3 Y_R_remove [.inl (some 40), .inr dir, .inr name] h (fun v h' => v = .inr (pz_remove S dir name).1 ∧ qz G (pz_remove S dir name).2 h' ∧ ∀ q, q < 40 → h' q = h q) := by
  obtain ⟨n, k, w, sp, t⟩ := S
  obtain ⟨-, -, -, -, -, -, hwf, -, -⟩ := hI
  have hwf : pz_wf k t := hwf
  have hS' := hS
  obtain ⟨hn, hw, hm, hT⟩ := hS
  have hn : n = aw_n G := hn
  have hw : rw_ w h := hw
  have hm : rm_ G k sp h := hm
  have hT : rt t h := hT
  have n2 := hG.1.2.2.2
  refine aw_met hG.1.1 (by decide) (Nat.le_of_ble_eq_true rfl) (fun M hM B E => ?_)
  show aw_X M G 6 0 [some (.inl (some 40)), some (.inr dir), some (.inr name), none, none, none] [] h
  have i40 := hG.i40
  have a42 := hG.a42
  have a43 := hG.a43
  have a44 := hG.a44
  have a45 := hG.a45
  have r5 : aw_rM 40 5 = some 42 := rfl
  have r6 : aw_rM 40 6 = some 43 := rfl
  have r7 : aw_rM 40 7 = some 44 := rfl
  have r8 : aw_rM 40 8 = some 45 := rfl
  unfold pz_remove at E
  refine ax_aload_n (q := 1) B d_R_remove_0 rfl rfl rfl ?_
  refine ax_iload_n (q := 2) B d_R_remove_1 rfl rfl rfl ?_
  refine ax_iconst (v := nI 1) (q := 3) B d_R_remove_2 ci_1 rfl ?_
  refine ax_qV2 (q := 6) B cv_R_96 d_R_remove_3 (by assumption) (Nat.le_of_ble_eq_true rfl) (by decide) (r_isKind hG hT dir (by omega)) rfl ?_
  cases hx : pz_nd t (fun c => c == 1) dir with
  | none =>
    simp only [hx] at E
    refine ax_ifZ_eq (q := 18) (q2 := 9) B d_R_remove_6 rfl rfl (fun h6 => ?_) (fun h6 => ?_)
    · refine ax_iconst (v := (-1)) (q := 19) B d_R_remove_18 ci_m1 rfl ?_
      refine ax_istore_n (q := 20) B d_R_remove_19 rfl (by decide) rfl ?_
      refine ax_iload_n (q := 21) B d_R_remove_20 rfl rfl rfl ?_
      refine ax_if_ge (q := 26) (q2 := 24) B d_R_remove_21 rfl rfl (fun h21 => ?_) (fun h21 => ?_)
      · exact absurd h21 (by decide)
      · refine ax_iconst (v := (-1)) (q := 25) B d_R_remove_24 ci_m1 rfl ?_
        refine ax_iret B E d_R_remove_25 ?_
        exact ⟨_, rfl, rfl, hS', fun q _ => rfl⟩
    · cases h6
  | some d =>
    simp only [hx] at E
    obtain ⟨hd8, hk1, -⟩ := pz_nd_lt hx
    have hk1 : pz_kd t d = 1 := beq_iff_eq.mp hk1
    have ea := pz_nd_arg hx
    subst ea
    refine ax_ifZ_eq (q := 18) (q2 := 9) B d_R_remove_6 rfl rfl (fun z => by cases z) (fun _ => ?_)
    refine ax_aload_n (q := 10) B d_R_remove_9 rfl rfl rfl ?_
    refine ax_iload_n (q := 11) B d_R_remove_10 rfl rfl rfl ?_
    refine ax_iload_n (q := 12) B d_R_remove_11 rfl rfl rfl ?_
    refine ax_qV2 (q := 15) B cv_R_100 d_R_remove_12 (by assumption) (Nat.le_of_ble_eq_true rfl) (by decide) (r_itemOf hG hT hd8 _) rfl ?_
    cases hix : pz_ix (pz_it t d) name (pz_ct t d) with
    | none =>
      simp only [hix] at E
      refine ax_goto (q := 19) B d_R_remove_15 rfl ?_
      refine ax_istore_n (q := 20) B d_R_remove_19 rfl (by decide) rfl ?_
      refine ax_iload_n (q := 21) B d_R_remove_20 rfl rfl rfl ?_
      refine ax_if_ge (q := 26) (q2 := 24) B d_R_remove_21 rfl rfl (fun h21 => ?_) (fun h21 => ?_)
      · exact absurd h21 (by decide)
      · refine ax_iconst (v := (-1)) (q := 25) B d_R_remove_24 ci_m1 rfl ?_
        refine ax_iret B E d_R_remove_25 ?_
        exact ⟨_, rfl, rfl, hS', fun q _ => rfl⟩
    | some j =>
      simp only [hix] at E
      have hj := pz_ix_lt _ hix
      have hcd : pz_ct t d ≤ 7 := hwf.ct hd8 hk1
      obtain ⟨-, hm8, hm0, hmd, hmk⟩ := hwf.2.2.2.2.1 d hd8 hk1 j hj
      obtain ⟨ej, lj⟩ := (hT d hd8).2.2.2.2.2.1 j hj
      obtain ⟨m, hmm⟩ : ∃ m, m = pz_it t d j % 16 := ⟨_, rfl⟩
      rw [← hmm] at hm8 hm0 hmd hmk E
      obtain ⟨f1, f2, -, lk, lc, -, -⟩ := hT m hm8
      have hcl := pz_cw_100 (pz_ch t) d 8 m
      have hC := r_changedWith (l := M.2.1) hG hT (a := d) (b := 8) (g := m) (by omega) (by omega) (by omega)
      rw [eI_N hd8, eI_N hm8, eI_8] at hC
      have tail3 : ¬ aw_n G < k + 0 + pz_cw (pz_ch t) d 8 m 8 + 1 → ¬ (pz_kd t m = 1 ∧ 0 < pz_ct t m) → ∀ u, aw_X M G 6 89 [some (.inl (some 40)), some (.inr (nI d)), some (.inr name), some (.inr (nI j)), some (.inr (nI m)), u] [] h := by
        intro hfull hbusy u
        rw [if_neg hbusy, if_neg (by rw [hn]; exact hfull)] at E
        refine ax_aload_n (q := 90) B d_R_remove_89 rfl rfl rfl ?_
        refine ax_iload_n (q := 91) B d_R_remove_90 rfl rfl rfl ?_
        refine ax_iload_n (q := 92) B d_R_remove_91 rfl rfl rfl ?_
        refine ax_pV2 (q := 95) B cv_R_121 d_R_remove_92 (by assumption) (Nat.le_of_ble_eq_true rfl) (by decide) (r_take hG hT hd8 hj) rfl (fun h1 hh1 => ?_)
        have hT2 := rgone hh1.1 hm8
        refine ax_aload_n (q := 96) B d_R_remove_95 rfl rfl rfl ?_
        refine ax_getP (q := 99) B fl_R_13 rfl d_R_remove_96 (by assumption) (by assumption) rfl ?_
        refine ax_iload (q := 101) B d_R_remove_99 rfl rfl ?_
        refine ax_iconst (v := nI 0) (q := 102) B d_R_remove_101 ci_0 rfl ?_
        refine ax_iastN (q := 103) B d_R_remove_102 (by assumption) rfl (by omega) (by omega) rfl ?_
        refine ax_aload_n (q := 104) B d_R_remove_103 rfl rfl rfl ?_
        refine ax_getP (q := 107) B fl_R_16 rfl d_R_remove_104 (by assumption) (by assumption) rfl ?_
        refine ax_iload (q := 109) B d_R_remove_107 rfl rfl ?_
        refine ax_iconst (v := nI 0) (q := 110) B d_R_remove_109 ci_0 rfl ?_
        refine ax_iastN (q := 111) B d_R_remove_110 (by assumption) rfl (by omega) (by omega) rfl ?_
        refine ax_aload_n (q := 112) B d_R_remove_111 rfl rfl rfl ?_
        refine ax_getP (q := 115) B fl_R_22 rfl d_R_remove_112 (by assumption) (by assumption) rfl ?_
        refine ax_iload (q := 117) B d_R_remove_115 rfl rfl ?_
        refine ax_iconst (v := nI 0) (q := 118) B d_R_remove_117 ci_0 rfl ?_
        refine ax_zastN (q := 119) B d_R_remove_118 (by assumption) rfl (by omega) (by omega) (by first | exact bI_or _ | decide) rfl ?_
        refine ax_iload (q := 121) B d_R_remove_119 rfl rfl ?_
        refine ax_iret B E d_R_remove_121 ?_
        exact ⟨_, rfl, rfl, ⟨hn, hw.kept (by rw [aw_u_ne (by omega), aw_u_ne (by omega), aw_u_ne (by omega), hh1.2 41 (by omega)]), hm.kept (by rw [aw_u_ne (by omega), aw_u_ne (by omega), aw_u_ne (by omega), hh1.2 40 (by omega)]), hT2⟩, fun q hq => by rw [aw_u_ne (by omega), aw_u_ne (by omega), aw_u_ne (by omega), hh1.2 q (by omega)]⟩
      have tail1 : ¬ (pz_kd t m = 1 ∧ 0 < pz_ct t m) → aw_X M G 6 66 [some (.inl (some 40)), some (.inr (nI d)), some (.inr name), some (.inr (nI j)), some (.inr (nI m)), none] [] h := by
        intro hbusy
        refine ax_aload_n (q := 67) B d_R_remove_66 rfl rfl rfl ?_
        refine ax_iload_n (q := 68) B d_R_remove_67 rfl rfl rfl ?_
        refine ax_iconst (v := (-1)) (q := 69) B d_R_remove_68 ci_m1 rfl ?_
        refine ax_iload (q := 71) B d_R_remove_69 rfl rfl ?_
        refine ax_qV3 (q := 74) B cv_R_103 d_R_remove_71 (by assumption) (Nat.le_of_ble_eq_true rfl) (by decide) hC rfl ?_
        refine ax_istore (q := 76) B d_R_remove_74 (by decide) rfl ?_
        refine ax_aload_n (q := 77) B d_R_remove_76 rfl rfl rfl ?_
        refine ax_iconst (v := nI 0) (q := 78) B d_R_remove_77 ci_0 rfl ?_
        refine ax_iload (q := 80) B d_R_remove_78 rfl rfl ?_
        refine ax_qV2 (q := 83) B cv_R_107 d_R_remove_80 (by assumption) (Nat.le_of_ble_eq_true rfl) (by decide) (r_tooFew hG hm.1 hm.2.1 n2 hm.2.2.1 (by omega) hcl) rfl ?_
        refine ax_ifZ_eq (q := 89) (q2 := 86) B d_R_remove_83 rfl rfl (fun h83 => ?_) (fun h83 => ?_)
        · exact tail3 (of_decide_eq_false h83) hbusy _
        · rw [if_neg hbusy, if_pos (by rw [hn]; exact of_decide_eq_true h83)] at E
          refine ax_bipush (v := (-4)) (q := 88) B d_R_remove_86 cb_m4 rfl ?_
          refine ax_iret B E d_R_remove_88 ?_
          exact ⟨_, rfl, rfl, hS', fun q _ => rfl⟩
      show aw_X M G 6 15 [some (.inl (some 40)), some (.inr (nI d)), some (.inr name), none, none, none] [.inr (nI j)] h
      refine ax_goto (q := 19) B d_R_remove_15 rfl ?_
      refine ax_istore_n (q := 20) B d_R_remove_19 rfl (by decide) rfl ?_
      refine ax_iload_n (q := 21) B d_R_remove_20 rfl rfl rfl ?_
      refine ax_ifN_ge (q := 26) (q2 := 24) B (by omega) d_R_remove_21 rfl rfl ?_
      refine ax_aload_n (q := 27) B d_R_remove_26 rfl rfl rfl ?_
      refine ax_getP (q := 30) B fl_R_19 rfl d_R_remove_27 (by assumption) (by assumption) rfl ?_
      refine ax_bipush (v := nI 10) (q := 32) B d_R_remove_30 cb_10 rfl ?_
      refine ax_iload_n (q := 33) B d_R_remove_32 rfl rfl rfl ?_
      first | refine ax_imulN (q := 34) B d_R_remove_33 rfl ?_ | refine ax_imul (q := 34) B d_R_remove_33 rfl ?_
      refine ax_iload_n (q := 35) B d_R_remove_34 rfl rfl rfl ?_
      first | refine ax_iaddN (q := 36) B d_R_remove_35 rfl ?_ | refine ax_iadd (q := 36) B d_R_remove_35 rfl ?_
      refine ax_ialdN (q := 37) B d_R_remove_36 (by assumption) rfl (by omega) (by omega) (by first | assumption | rfl) rfl ?_
      refine ax_bipush (v := nI 16) (q := 39) B d_R_remove_37 cb_16 rfl ?_
      refine ax_iremN (q := 40) B (by omega) (by omega) (by omega) d_R_remove_39 rfl ?_
      refine ax_top (congrArg nI hmm.symm) ?_
      refine ax_istore (q := 42) B d_R_remove_40 (by decide) rfl ?_
      refine ax_aload_n (q := 43) B d_R_remove_42 rfl rfl rfl ?_
      refine ax_getP (q := 46) B fl_R_13 rfl d_R_remove_43 (by assumption) (by assumption) rfl ?_
      refine ax_iload (q := 48) B d_R_remove_46 rfl rfl ?_
      refine ax_ialdN (q := 49) B d_R_remove_48 (by assumption) rfl (by omega) (by omega) (by first | assumption | rfl) rfl ?_
      refine ax_iconst (v := nI 1) (q := 50) B d_R_remove_49 ci_1 rfl ?_
      refine ax_icmpN_ne (q := 66) (q2 := 53) B (by omega) (by omega) d_R_remove_50 rfl rfl (fun h50 => ?_) (fun h50 => ?_)
      · exact tail1 (fun z => by omega)
      · refine ax_aload_n (q := 54) B d_R_remove_53 rfl rfl rfl ?_
        refine ax_getP (q := 57) B fl_R_16 rfl d_R_remove_54 (by assumption) (by assumption) rfl ?_
        refine ax_iload (q := 59) B d_R_remove_57 rfl rfl ?_
        refine ax_ialdN (q := 60) B d_R_remove_59 (by assumption) rfl (by omega) (by omega) (by first | assumption | rfl) rfl ?_
        refine ax_ifN_le (q := 66) (q2 := 63) B (by omega) d_R_remove_60 rfl rfl (fun h60 => ?_) (fun h60 => ?_)
        · exact tail1 (fun z => by omega)
        · rw [if_pos ⟨by omega, by omega⟩] at E
          refine ax_bipush (v := (-6)) (q := 65) B d_R_remove_63 cb_m6 rfl ?_
          refine ax_iret B E d_R_remove_65 ?_
          exact ⟨_, rfl, rfl, hS', fun q _ => rfl⟩
