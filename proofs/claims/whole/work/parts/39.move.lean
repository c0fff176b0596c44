theorem pz_nd_arg {t : pz_T} {P : Nat → Bool} {x : Int32} {i : Nat} (h : pz_nd t P x = some i) : x = nI i := by
  obtain ⟨h8, -, hn⟩ := pz_nd_lt h
  cases hsm : pz_small x 8 with
  | false => rw [pz_no_8 hsm] at hn; omega
  | true =>
    obtain ⟨j, hj, rfl⟩ := pz_small_e (by omega) hsm
    rw [pz_no_N hj] at hn
    rw [hn]
theorem p_move {l : Launch} {G : aw_G} (hG : gz G) {h : aw_H} {S : pz_S} (hS : cz G S h) (hI : pz_inv S) (dir name to as : Int32) : aw_F l G 3 Y_S_move [.inl (some 0), .inr dir, .inr name, .inr to, .inr as] h (fun v h' => v = .inr (pz_move S dir name to as).1 ∧ cz G (pz_move S dir name to as).2 h' ∧ ∀ q, 40 ≤ q → h' q = h q) := by
  obtain ⟨n, k, w, sp, t⟩ := S
  obtain ⟨-, -, -, -, -, -, hwf, -, -⟩ := hI
  have hS' := hS
  obtain ⟨hn, hm, hT⟩ := hS
  have hn : n = aw_n G := hn
  have hm : mz G k sp w h := hm
  have hT : hz_T 4 t h := hT
  have hwf : pz_wf k t := hwf
  refine aw_met hG.1 (by decide) (Nat.le_of_ble_eq_true rfl) (fun M hM B E => ?_)
  show aw_X M G 10 0 [some (.inl (some 0)), some (.inr dir), some (.inr name), some (.inr to), some (.inr as), none, none, none, none, none] [] h
  have i0 := hG.is0
  have r1 : aw_rM 0 1 = some 4 := rfl
  have i4 := hG.t4.2.1
  have n2 := hG.2.2.2
  unfold pz_move at E
  refine ax_aload_n (q := 1) B d_S_move_0 rfl rfl rfl ?_
  refine ax_getP (q := 4) B fl_S_30 rfl d_S_move_1 (by assumption) (by assumption) rfl ?_
  refine ax_iload_n (q := 5) B d_S_move_4 rfl rfl rfl ?_
  refine ax_qV1 (q := 8) B cv_S_40 d_S_move_5 (by assumption) (Nat.le_of_ble_eq_true rfl) (by decide) (k_directoryAt hG.1 hG.t4 hT dir) rfl ?_
  refine ax_astore (q := 10) B d_S_move_8 (by decide) rfl ?_
  refine ax_aload_n (q := 11) B d_S_move_10 rfl rfl rfl ?_
  refine ax_getP (q := 14) B fl_S_30 rfl d_S_move_11 (by assumption) (by assumption) rfl ?_
  refine ax_iload_n (q := 15) B d_S_move_14 rfl rfl rfl ?_
  refine ax_qV1 (q := 18) B cv_S_40 d_S_move_15 (by assumption) (Nat.le_of_ble_eq_true rfl) (by decide) (k_directoryAt hG.1 hG.t4 hT to) rfl ?_
  cases hx : pz_nd t (fun c => c == 1) dir with
  | none =>
    simp only [hx] at E
    refine ax_astore (q := 20) B d_S_move_18 (by decide) rfl ?_
    refine ax_aload (q := 22) B d_S_move_20 rfl rfl ?_
    refine ax_ifnull (q := 38) (q2 := 25) B d_S_move_22 rfl rfl (fun h22 => ?_) (fun _ h22 => ?_)
    · refine ax_iconst (v := (-1)) (q := 39) B d_S_move_38 ci_m1 rfl ?_
      refine ax_iret B E d_S_move_39 ?_
      exact ⟨_, rfl, rfl, hS', fun q _ => rfl⟩
    · cases h22
  | some d =>
  cases hx2 : pz_nd t (fun c => c == 1) to with
  | none =>
    simp only [hx, hx2] at E
    refine ax_astore (q := 20) B d_S_move_18 (by decide) rfl ?_
    refine ax_aload (q := 22) B d_S_move_20 rfl rfl ?_
    refine ax_ifnull (q := 38) (q2 := 25) B d_S_move_22 rfl rfl (fun h22 => ?_) (fun _ h22 => ?_)
    · refine ax_iconst (v := (-1)) (q := 39) B d_S_move_38 ci_m1 rfl ?_
      refine ax_iret B E d_S_move_39 ?_
      exact ⟨_, rfl, rfl, hS', fun q _ => rfl⟩
    · refine ax_aload (q := 27) B d_S_move_25 rfl rfl ?_
      refine ax_ifnull (q := 38) (q2 := 30) B d_S_move_27 rfl rfl (fun h27 => ?_) (fun _ h27 => ?_)
      · refine ax_iconst (v := (-1)) (q := 39) B d_S_move_38 ci_m1 rfl ?_
        refine ax_iret B E d_S_move_39 ?_
        exact ⟨_, rfl, rfl, hS', fun q _ => rfl⟩
      · cases h27
  | some e =>
    simp only [hx, hx2] at E
    have ea := pz_nd_arg hx
    have eb := pz_nd_arg hx2
    obtain ⟨hd8, hk1, -⟩ := pz_nd_lt hx
    obtain ⟨he8, hk1', -⟩ := pz_nd_lt hx2
    have hk1 : pz_kd t d = 1 := beq_iff_eq.mp hk1
    have hk1' : pz_kd t e = 1 := beq_iff_eq.mp hk1'
    subst ea
    subst eb
    have nd := (hG.t4.2.2.2.2 d hd8).2
    have id := nd.1
    have ne := (hG.t4.2.2.2.2 e he8).2
    have ie := ne.1
    have hN := hT d hd8
    have hNe := hT e he8
    have hc10 := hN.2.2.2.2.2.1
    have hcd := hwf.ct hd8 hk1
    have hce := hwf.ct he8 hk1'
    show aw_X M G 10 18 [some (.inl (some 0)), some (.inr (nI d)), some (.inr name), some (.inr (nI e)), some (.inr as), some (.inl (some (4 + 2 + 2 * d))), none, none, none, none] [.inl (some (4 + 2 + 2 * e))] h
    refine ax_astore (q := 20) B d_S_move_18 (by decide) rfl ?_
    refine ax_aload (q := 22) B d_S_move_20 rfl rfl ?_
    refine ax_ifnull (q := 38) (q2 := 25) B d_S_move_22 rfl rfl (fun z => by cases z) (fun _ _ => ?_)
    refine ax_aload (q := 27) B d_S_move_25 rfl rfl ?_
    refine ax_ifnull (q := 38) (q2 := 30) B d_S_move_27 rfl rfl (fun z => by cases z) (fun _ _ => ?_)
    refine ax_iload (q := 32) B d_S_move_30 rfl rfl ?_
    refine ax_qS1 (q := 35) B cv_S_44 d_S_move_32 (Nat.le_of_ble_eq_true rfl) (by decide) (k_isName hG.1 h as) rfl ?_
    cases hnm : pz_small as 100 with
    | false =>
      simp only [hnm, if_true] at E
      refine ax_ifZ_ne (q := 40) (q2 := 38) B d_S_move_35 rfl rfl (fun h35 => ?_) (fun h35 => ?_)
      · cases h35
      · refine ax_iconst (v := (-1)) (q := 39) B d_S_move_38 ci_m1 rfl ?_
        refine ax_iret B E d_S_move_39 ?_
        exact ⟨_, rfl, rfl, hS', fun q _ => rfl⟩
    | true =>
      simp only [hnm, Bool.true_eq_false, if_false] at E
      obtain ⟨x, hx100, rfl⟩ := pz_small_e (by omega) hnm
      rw [nI_clamp (by omega)] at E
      refine ax_ifZ_ne (q := 40) (q2 := 38) B d_S_move_35 rfl rfl (fun _ => ?_) (fun z => by cases z)
      refine ax_aload (q := 42) B d_S_move_40 rfl rfl ?_
      refine ax_iload_n (q := 43) B d_S_move_42 rfl rfl rfl ?_
      refine ax_qV1 (q := 46) B cv_S_48 d_S_move_43 (by assumption) (Nat.le_of_ble_eq_true rfl) (by decide) (k_indexOfName hG.1 nd hN.lz _) rfl ?_
      cases hix : pz_ix (pz_it t d) name (pz_ct t d) with
      | none =>
        simp only [hix] at E
        refine ax_istore (q := 48) B d_S_move_46 (by decide) rfl ?_
        refine ax_iload (q := 50) B d_S_move_48 rfl rfl ?_
        refine ax_iconst (v := (-1)) (q := 51) B d_S_move_50 ci_m1 rfl ?_
        refine ax_icmp_ne (q := 56) (q2 := 54) B d_S_move_51 rfl rfl (fun h51 => ?_) (fun h51 => ?_)
        · exact absurd rfl h51
        · refine ax_iconst (v := (-1)) (q := 55) B d_S_move_54 ci_m1 rfl ?_
          refine ax_iret B E d_S_move_55 ?_
          exact ⟨_, rfl, rfl, hS', fun q _ => rfl⟩
      | some j =>
        simp only [hix] at E
        have hj := pz_ix_lt _ hix
        obtain ⟨-, hm8, hm0, hmd, hmk⟩ := hwf.2.2.2.2.1 d hd8 hk1 j hj
        have hC := k_nodeOfItem (l := M.2.1) hG.1 nd hN.lz (o := some j) (fun i hi => by cases hi; exact hj)
        have hC : aw_I M.2.1 G 1 Y_N_nodeOfItem [.inl (some (4 + 2 + 2 * d)), .inr (nI j)] h (.inr (nI (pz_it t d j % 16))) := hC
        generalize pz_it t d j % 16 = m at hm8 hm0 hmd hmk E hC
        show aw_X M G 10 46 [some (.inl (some 0)), some (.inr (nI d)), some (.inr name), some (.inr (nI e)), some (.inr (nI x)), some (.inl (some (4 + 2 + 2 * d))), some (.inl (some (4 + 2 + 2 * e))), none, none, none] [.inr (nI j)] h
        refine ax_istore (q := 48) B d_S_move_46 (by decide) rfl ?_
        refine ax_iload (q := 50) B d_S_move_48 rfl rfl ?_
        refine ax_iconst (v := (-1)) (q := 51) B d_S_move_50 ci_m1 rfl ?_
        refine ax_icmp_ne (q := 56) (q2 := 54) B d_S_move_51 rfl rfl (fun _ => ?_) (fun z => absurd z (nI_nm1 (by omega)))
        refine ax_aload (q := 58) B d_S_move_56 rfl rfl ?_
        refine ax_iload (q := 60) B d_S_move_58 rfl rfl ?_
        refine ax_qV1 (q := 63) B cv_S_48 d_S_move_60 (by assumption) (Nat.le_of_ble_eq_true rfl) (by decide) (k_indexOfName hG.1 ne hNe.lz _) rfl ?_
        cases hix2 : pz_ix (pz_it t e) (nI x) (pz_ct t e) with
        | some j2 =>
          simp only [hix2] at E
          have hj2 := pz_ix_lt _ hix2
          refine ax_iconst (v := (-1)) (q := 64) B d_S_move_63 ci_m1 rfl ?_
          refine ax_icmp_eq (q := 70) (q2 := 67) B d_S_move_64 rfl rfl (fun h64 => ?_) (fun h64 => ?_)
          · exact absurd h64 (nI_nm1 (by omega))
          · refine ax_bipush (v := (-2)) (q := 69) B d_S_move_67 cb_m2 rfl ?_
            refine ax_iret B E d_S_move_69 ?_
            exact ⟨_, rfl, rfl, hS', fun q _ => rfl⟩
        | none =>
          simp only [hix2] at E
          refine ax_iconst (v := -1) (q := 64) B d_S_move_63 ci_m1 rfl ?_
          refine ax_icmp_eq (q := 70) (q2 := 67) B d_S_move_64 rfl rfl (fun _ => ?_) (fun z => absurd rfl z)
          refine ax_aload (q := 72) B d_S_move_70 rfl rfl ?_
          refine ax_iload (q := 74) B d_S_move_72 rfl rfl ?_
          refine ax_qV1 (q := 77) B cv_S_103 d_S_move_74 (by assumption) (Nat.le_of_ble_eq_true rfl) (by decide) hC rfl ?_
          refine ax_istore (q := 79) B d_S_move_77 (by decide) rfl ?_
          refine ax_aload_n (q := 80) B d_S_move_79 rfl rfl rfl ?_
          refine ax_getP (q := 83) B fl_S_30 rfl d_S_move_80 (by assumption) (by assumption) rfl ?_
          refine ax_iload_n (q := 84) B d_S_move_83 rfl rfl rfl ?_
          refine ax_iload (q := 86) B d_S_move_84 rfl rfl ?_
          refine ax_qV2 (q := 89) B cv_S_122 d_S_move_86 (by assumption) (Nat.le_of_ble_eq_true rfl) (by decide) (k_isAtOrBelow hG.1 hG.t4 hT he8 (by omega)) rfl ?_
          have hcw : pz_cw (pz_ch t) d e 8 8 = pz_cp (pz_ch t) 8 + ((if pz_ch t d = true then 0 else 1) + (if e = d then 0 else if pz_ch t e = true then 0 else 1)) := by
            by_cases hed : e = d
            · subst hed
              rw [if_pos rfl, pz_cw_same, pz_cw_one hd8]
              omega
            · rw [if_neg hed, pz_cw_two hd8 he8 hed]
              omega
          have hcp := pz_cp_le (pz_ch t) 8
          have hcl : pz_cw (pz_ch t) d e 8 8 ≤ 100 := by rw [hcw]; split <;> split <;> (try split) <;> omega
          cases hbl : pz_below t e m 8 with
          | true =>
            rw [if_pos hbl] at E
            refine ax_ifZ_eq (q := 95) (q2 := 92) B d_S_move_89 rfl rfl (fun h89 => ?_) (fun h89 => ?_)
            · cases h89
            · refine ax_bipush (v := (-7)) (q := 94) B d_S_move_92 cb_m7 rfl ?_
              refine ax_iret B E d_S_move_94 ?_
              exact ⟨_, rfl, rfl, hS', fun q _ => rfl⟩
          | false =>
            rw [if_neg (by rw [hbl]; decide)] at E
            refine ax_ifZ_eq (q := 95) (q2 := 92) B d_S_move_89 rfl rfl (fun _ => ?_) (fun z => by cases z)
            have tail3 : ¬ aw_n G < k + 0 + pz_cw (pz_ch t) d e 8 8 + 1 → ∀ u, aw_X M G 10 130 [some (.inl (some 0)), some (.inr (nI d)), some (.inr name), some (.inr (nI e)), some (.inr (nI x)), some (.inl (some (4 + 2 + 2 * d))), some (.inl (some (4 + 2 + 2 * e))), some (.inr (nI j)), some (.inr (nI m)), u] [] h := by
              intro hfull u
              rw [if_neg (by rw [hn]; exact hfull)] at E
              refine ax_aload (q := 132) B d_S_move_130 rfl rfl ?_
              refine ax_iload (q := 134) B d_S_move_132 rfl rfl ?_
              refine ax_pV1 (q := 137) B cv_S_116 d_S_move_134 (by assumption) (Nat.le_of_ble_eq_true rfl) (by decide) (k_dropItem hG.1 nd hN.2.1 hc10 hj) rfl (fun h1 hh1 => ?_)
              have hT1 : hz_T 4 (pz_take t d j) h1 := take_T hT hd8 hj hh1
              have hf1 := hh1.2.2.2.2.2
              have hct : pz_ct (pz_take t d j) e ≤ 7 := by
                by_cases hed : e = d
                · subst hed
                  have e2 : pz_ct (pz_take t e j) e = pz_ct t e - 1 := pz_up_s
                  omega
                · have e2 : pz_ct (pz_take t d j) e = pz_ct t e := pz_up_n hed
                  omega
              refine ax_aload (q := 139) B d_S_move_137 rfl rfl ?_
              refine ax_iload (q := 141) B d_S_move_139 rfl rfl ?_
              refine ax_iload (q := 143) B d_S_move_141 rfl rfl ?_
              refine ax_pV2 (q := 146) B cv_S_72 d_S_move_143 (by assumption) (Nat.le_of_ble_eq_true rfl) (by decide) (k_addItem hG.1 ne (hT1 e he8).2.1 (by omega) _ _) rfl (fun h2 hh2 => ?_)
              have hT2 : hz_T 4 (pz_add (pz_take t d j) e (16 * x + m)) h2 := by
                rw [hh2, Nat.mul_comm x 16]
                exact add_T hT1 he8 (by omega) (by omega)
              have hf2 : ∀ q, q < 6 ∨ 22 ≤ q → h2 q = h q := fun q hq => by rw [hh2, aw_u_ne (by omega), aw_u_ne (by omega), aw_u_ne (by omega), hf1 q (by omega) (by omega)]
              refine ax_iload (q := 148) B d_S_move_146 rfl rfl ?_
              refine ax_iret B E d_S_move_148 ?_
              exact ⟨_, rfl, rfl, ⟨hn, hm.kept (hf2 1 (by omega)) (hf2 2 (by omega)) (hf2 3 (by omega)), hT2⟩, fun q hq => hf2 q (by omega)⟩
            have tail2 : ∀ g : Nat, (if e = d then 0 else if pz_ch t e = true then 0 else 1) = g → aw_X M G 10 109 [some (.inl (some 0)), some (.inr (nI d)), some (.inr name), some (.inr (nI e)), some (.inr (nI x)), some (.inl (some (4 + 2 + 2 * d))), some (.inl (some (4 + 2 + 2 * e))), some (.inr (nI j)), some (.inr (nI m)), none] [.inr (nI g)] h := by
              intro g hg
              rw [hg] at hcw
              refine ax_istore (q := 111) B d_S_move_109 (by decide) rfl ?_
              refine ax_aload_n (q := 112) B d_S_move_111 rfl rfl rfl ?_
              refine ax_iconst (v := nI 0) (q := 113) B d_S_move_112 ci_0 rfl ?_
              refine ax_aload (q := 115) B d_S_move_113 rfl rfl ?_
              refine ax_qV0 (q := 118) B cv_S_58 d_S_move_115 (by assumption) (Nat.le_of_ble_eq_true rfl) (by decide) (k_ifUnchanged hG.1 nd hN.2.2.2.1) rfl ?_
              refine ax_iload (q := 120) B d_S_move_118 rfl rfl ?_
              first | refine ax_iaddN (q := 121) B d_S_move_120 rfl ?_ | refine ax_iadd (q := 121) B d_S_move_120 rfl ?_
              refine ax_qV2 (q := 124) B cv_S_61 d_S_move_121 (by assumption) (Nat.le_of_ble_eq_true rfl) (by decide) (k_isTooFull hG hm hT (c := pz_cw (pz_ch t) d e 8 8) (by omega) hcl (by rw [nI_add]; congr 1; exact hcw.symm)) rfl ?_
              refine ax_ifZ_eq (q := 130) (q2 := 127) B d_S_move_124 rfl rfl (fun h124 => ?_) (fun h124 => ?_)
              · exact tail3 (of_decide_eq_false h124) _
              · rw [if_pos (by rw [hn]; exact of_decide_eq_true h124)] at E
                refine ax_bipush (v := (-4)) (q := 129) B d_S_move_127 cb_m4 rfl ?_
                refine ax_iret B E d_S_move_129 ?_
                exact ⟨_, rfl, rfl, hS', fun q _ => rfl⟩
            refine ax_iload_n (q := 96) B d_S_move_95 rfl rfl rfl ?_
            refine ax_iload_n (q := 97) B d_S_move_96 rfl rfl rfl ?_
            refine ax_icmpN_ne (q := 104) (q2 := 100) B (by omega) (by omega) d_S_move_97 rfl rfl (fun h97 => ?_) (fun h97 => ?_)
            · refine ax_aload (q := 106) B d_S_move_104 rfl rfl ?_
              refine ax_qV0 (q := 109) B cv_S_58 d_S_move_106 (by assumption) (Nat.le_of_ble_eq_true rfl) (by decide) (k_ifUnchanged hG.1 ne hNe.2.2.2.1) rfl ?_
              first | exact tail2 0 (by rw [if_pos h97]) | exact tail2 _ (by rw [if_neg h97])
            · refine ax_iconst (v := nI 0) (q := 101) B d_S_move_100 ci_0 rfl ?_
              refine ax_goto (q := 109) B d_S_move_101 rfl ?_
              first | exact tail2 0 (by rw [if_pos h97]) | exact tail2 _ (by rw [if_neg h97])
