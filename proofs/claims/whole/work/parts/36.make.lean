theorem new_T {t : pz_T} {h : aw_H} {m x : Nat} (hT : hz_T 4 t h) (hm : m < 8) (hx : x < 65536) : hz_T 4 (pz_new t m x) (hz_new h (4 + 2 + 2 * m) (nI x)) := fun i hi => by
  by_cases him : i = m
  · subst him
    exact hz_new_N hx pz_up_s pz_up_s pz_up_s pz_up_s
  · exact ((hT i hi).ext (t' := pz_new t m x) (pz_up_n him) (pz_up_n him) (pz_up_n him) (pz_up_n him) (fun j hj => rfl)).kept (hz_new_ne (by omega)) (hz_new_ne (by omega))
theorem gone_T {t : pz_T} {h : aw_H} {m : Nat} (hT : hz_T 4 t h) (hm : m < 8) : hz_T 4 (pz_gone t m) (hz_abs h (4 + 2 + 2 * m)) := fun i hi => by
  by_cases him : i = m
  · subst him
    exact hz_abs_N pz_up_s pz_up_s pz_up_s pz_up_s
  · exact ((hT i hi).ext (t' := pz_gone t m) (pz_up_n him) (pz_up_n him) (pz_up_n him) (pz_up_n him) (fun j hj => rfl)).kept (hz_abs_ne (by omega)) (hz_abs_ne (by omega))
theorem add_T {t : pz_T} {h : aw_H} {d v : Nat} (hT : hz_T 4 t h) (hd : d < 8) (hc : pz_ct t d < 10) (hv : v < 65536) : hz_T 4 (pz_add t d v) (aw_u (aw_u (aw_u h (4 + 2 + 2 * d + 1) (pz_ct t d) (nI v)) (4 + 2 + 2 * d) 2 (nI (pz_ct t d + 1))) (4 + 2 + 2 * d) 4 (nI 1)) := fun i hi => by
  by_cases hid : i = d
  · subst hid
    obtain ⟨a1, a2, a3, a4, a5, a6, a7⟩ := hT i hi
    have e2 : pz_ct (pz_add t i v) i = pz_ct t i + 1 := pz_up_s
    have e3 : pz_ch (pz_add t i v) i = true := pz_up_s
    unfold hz_N
    rw [e2, e3]
    refine ⟨aw_rd (by omega) (aw_rd (by omega) (aw_rd (by omega) a1)), aw_rd (by omega) aw_rs, aw_rd (by omega) (aw_rd (by omega) (aw_rd (by omega) a3)), aw_rs, a5, by omega, fun j hj => ?_⟩
    have e4 : pz_it (pz_add t i v) i j = pz_up (pz_it t i) (pz_ct t i) v j := by
      show pz_up (pz_it t) i (pz_up (pz_it t i) (pz_ct t i) v) i j = _
      rw [pz_up_s]
    rw [e4]
    by_cases hj2 : j = pz_ct t i
    · subst hj2
      rw [pz_up_s]
      exact ⟨aw_rd (by omega) (aw_rd (by omega) aw_rs), hv⟩
    · rw [pz_up_n hj2]
      obtain ⟨b1, b2⟩ := a7 j (by omega)
      exact ⟨aw_rd (by omega) (aw_rd (by omega) (aw_rd (by omega) b1)), b2⟩
  · refine ((hT i hi).ext (t' := pz_add t d v) rfl (pz_up_n hid) (pz_up_n hid) rfl (fun j hj => ?_)).kept ?_ ?_
    · show pz_up (pz_it t) d _ i j = _
      rw [pz_up_n hid]
    · rw [aw_u_ne (by omega), aw_u_ne (by omega), aw_u_ne (by omega)]
    · rw [aw_u_ne (by omega), aw_u_ne (by omega), aw_u_ne (by omega)]
theorem p_make {l : Launch} {G : aw_G} (hG : gz G) {h : aw_H} {S : pz_S} (hS : cz G S h) (hI : pz_inv S) (dir name : Int32) (b : Bool) : aw_F l G 3 Y_S_make [.inl (some 0), .inr dir, .inr name, .inr (bI b)] h (fun v h' => v = .inr (pz_make S dir name b).1 ∧ cz G (pz_make S dir name b).2 h' ∧ ∀ q, 40 ≤ q → h' q = h q) := by
  obtain ⟨n, k, w, sp, t⟩ := S
  obtain ⟨-, -, -, -, -, -, hwf, -, -⟩ := hI
  have hS' := hS
  obtain ⟨hn, hm, hT⟩ := hS
  have hn : n = aw_n G := hn
  have hm : mz G k sp w h := hm
  have hT : hz_T 4 t h := hT
  have hwf : pz_wf k t := hwf
  refine aw_met hG.1 (by decide) (Nat.le_of_ble_eq_true rfl) (fun M hM B E => ?_)
  show aw_X M G 6 0 [some (.inl (some 0)), some (.inr dir), some (.inr name), some (.inr (bI b)), none, none] [] h
  have i0 := hG.is0
  have r1 : aw_rM 0 1 = some 4 := rfl
  have i4 := hG.t4.2.1
  have r4 := hG.t4.2.2.1
  have a5 := hG.t4.2.2.2.1
  have n2 := hG.2.2.2
  unfold pz_make at E
  refine ax_aload_n (q := 1) B d_S_make_0 rfl rfl rfl ?_
  refine ax_getP (q := 4) B fl_S_30 rfl d_S_make_1 (by assumption) (by assumption) rfl ?_
  refine ax_iload_n (q := 5) B d_S_make_4 rfl rfl rfl ?_
  refine ax_qV1 (q := 8) B cv_S_40 d_S_make_5 (by assumption) (Nat.le_of_ble_eq_true rfl) (by decide) (k_directoryAt hG.1 hG.t4 hT dir) rfl ?_
  cases hx : pz_nd t (fun c => c == 1) dir with
  | none =>
    simp only [hx] at E
    refine ax_astore (q := 10) B d_S_make_8 (by decide) rfl ?_
    refine ax_aload (q := 12) B d_S_make_10 rfl rfl ?_
    refine ax_ifnull (q := 22) (q2 := 15) B d_S_make_12 rfl rfl (fun h12 => ?_) (fun _ h12 => ?_)
    · refine ax_iconst (v := (-1)) (q := 23) B d_S_make_22 ci_m1 rfl ?_
      refine ax_iret B E d_S_make_23 ?_
      exact ⟨_, rfl, rfl, hS', fun q _ => rfl⟩
    · cases h12
  | some d =>
    simp only [hx] at E
    obtain ⟨hd8, hk1, -⟩ := pz_nd_lt hx
    have hk1 : pz_kd t d = 1 := beq_iff_eq.mp hk1
    have nd := (hG.t4.2.2.2.2 d hd8).2
    have id := nd.1
    have hN := hT d hd8
    show aw_X M G 6 8 [some (.inl (some 0)), some (.inr dir), some (.inr name), some (.inr (bI b)), none, none] [.inl (some (4 + 2 + 2 * d))] h
    refine ax_astore (q := 10) B d_S_make_8 (by decide) rfl ?_
    refine ax_aload (q := 12) B d_S_make_10 rfl rfl ?_
    refine ax_ifnull (q := 22) (q2 := 15) B d_S_make_12 rfl rfl (fun z => by cases z) (fun _ _ => ?_)
    refine ax_iload_n (q := 16) B d_S_make_15 rfl rfl rfl ?_
    refine ax_qS1 (q := 19) B cv_S_44 d_S_make_16 (Nat.le_of_ble_eq_true rfl) (by decide) (k_isName hG.1 h name) rfl ?_
    cases hnm : pz_small name 100 with
    | false =>
      simp only [hnm, if_true] at E
      refine ax_ifZ_ne (q := 24) (q2 := 22) B d_S_make_19 rfl rfl (fun h19 => ?_) (fun h19 => ?_)
      · cases h19
      · refine ax_iconst (v := (-1)) (q := 23) B d_S_make_22 ci_m1 rfl ?_
        refine ax_iret B E d_S_make_23 ?_
        exact ⟨_, rfl, rfl, hS', fun q _ => rfl⟩
    | true =>
      simp only [hnm, Bool.true_eq_false, if_false] at E
      obtain ⟨x, hx100, rfl⟩ := pz_small_e (by omega) hnm
      rw [nI_clamp (by omega)] at E
      refine ax_ifZ_ne (q := 24) (q2 := 22) B d_S_make_19 rfl rfl (fun _ => ?_) (fun z => by cases z)
      refine ax_aload (q := 26) B d_S_make_24 rfl rfl ?_
      refine ax_iload_n (q := 27) B d_S_make_26 rfl rfl rfl ?_
      refine ax_qV1 (q := 30) B cv_S_48 d_S_make_27 (by assumption) (Nat.le_of_ble_eq_true rfl) (by decide) (k_indexOfName hG.1 nd hN.lz _) rfl ?_
      cases hix : pz_ix (pz_it t d) (nI x) (pz_ct t d) with
      | some j =>
        simp only [hix] at E
        have hj := pz_ix_lt _ hix
        have hc10 := hN.2.2.2.2.2.1
        refine ax_iconst (v := (-1)) (q := 31) B d_S_make_30 ci_m1 rfl ?_
        refine ax_icmp_eq (q := 37) (q2 := 34) B d_S_make_31 rfl rfl (fun h31 => ?_) (fun h31 => ?_)
        · exact absurd h31 (nI_nm1 (by omega))
        · refine ax_bipush (v := (-2)) (q := 36) B d_S_make_34 cb_m2 rfl ?_
          refine ax_iret B E d_S_make_36 ?_
          exact ⟨_, rfl, rfl, hS', fun q _ => rfl⟩
      | none =>
        simp only [hix] at E
        refine ax_iconst (v := -1) (q := 31) B d_S_make_30 ci_m1 rfl ?_
        refine ax_icmp_eq (q := 37) (q2 := 34) B d_S_make_31 rfl rfl (fun _ => ?_) (fun z => absurd rfl z)
        refine ax_aload_n (q := 38) B d_S_make_37 rfl rfl rfl ?_
        refine ax_getP (q := 41) B fl_S_30 rfl d_S_make_38 (by assumption) (by assumption) rfl ?_
        refine ax_qV0 (q := 44) B cv_S_54 d_S_make_41 (by assumption) (Nat.le_of_ble_eq_true rfl) (by decide) (k_leastAbsent hG.1 hG.t4 hT) rfl ?_
        cases hle : pz_least (pz_kd t) 8 with
        | none =>
          simp only [hle] at E
          refine ax_istore (q := 46) B d_S_make_44 (by decide) rfl ?_
          refine ax_iload (q := 48) B d_S_make_46 rfl rfl ?_
          refine ax_iconst (v := (-1)) (q := 49) B d_S_make_48 ci_m1 rfl ?_
          refine ax_icmp_ne (q := 55) (q2 := 52) B d_S_make_49 rfl rfl (fun h49 => ?_) (fun h49 => ?_)
          · exact absurd rfl h49
          · refine ax_bipush (v := (-3)) (q := 54) B d_S_make_52 cb_m3 rfl ?_
            refine ax_iret B E d_S_make_54 ?_
            exact ⟨_, rfl, rfl, hS', fun q _ => rfl⟩
        | some m =>
          simp only [hle] at E
          obtain ⟨hm8, hm0⟩ := pz_least_some 8 hle
          obtain ⟨rm, nm⟩ := hG.t4.2.2.2.2 m hm8
          have im := nm.1
          have hmd : m ≠ d := fun z => by rw [z, hk1] at hm0; cases hm0
          have hcm := (hwf.2.2.1 m hm8 hm0).2.1
          have hcd : pz_ct t d ≤ 7 := hwf.ct hd8 hk1
          have hcw := pz_cw_two (ch := pz_ch t) hd8 hm8 hmd
          rw [hcm] at hcw
          have hcp := pz_cp_le (pz_ch t) 8
          have hcl : pz_cw (pz_ch t) d m 8 8 ≤ 100 := by rw [hcw]; split <;> simp <;> omega
          show aw_X M G 6 44 [some (.inl (some 0)), some (.inr dir), some (.inr (nI x)), some (.inr (bI b)), some (.inl (some (4 + 2 + 2 * d))), none] [.inr (nI m)] h
          refine ax_istore (q := 46) B d_S_make_44 (by decide) rfl ?_
          refine ax_iload (q := 48) B d_S_make_46 rfl rfl ?_
          refine ax_iconst (v := (-1)) (q := 49) B d_S_make_48 ci_m1 rfl ?_
          refine ax_icmp_ne (q := 55) (q2 := 52) B d_S_make_49 rfl rfl (fun _ => ?_) (fun z => absurd z (nI_nm1 (by omega)))
          refine ax_aload_n (q := 56) B d_S_make_55 rfl rfl rfl ?_
          refine ax_iconst (v := nI 0) (q := 57) B d_S_make_56 ci_0 rfl ?_
          refine ax_iconst (v := nI 1) (q := 58) B d_S_make_57 ci_1 rfl ?_
          refine ax_aload (q := 60) B d_S_make_58 rfl rfl ?_
          refine ax_qV0 (q := 63) B cv_S_58 d_S_make_60 (by assumption) (Nat.le_of_ble_eq_true rfl) (by decide) (k_ifUnchanged hG.1 nd hN.2.2.2.1) rfl ?_
          first | refine ax_iaddN (q := 64) B d_S_make_63 rfl ?_ | refine ax_iadd (q := 64) B d_S_make_63 rfl ?_
          refine ax_qV2 (q := 67) B cv_S_61 d_S_make_64 (by assumption) (Nat.le_of_ble_eq_true rfl) (by decide) (k_isTooFull hG hm hT (c := pz_cw (pz_ch t) d m 8 8) (by omega) hcl (by rw [nI_add]; congr 1; rw [hcw]; show pz_cp (pz_ch t) 8 + _ = _; simp; omega)) rfl ?_
          by_cases hfull : aw_n G < k + 0 + pz_cw (pz_ch t) d m 8 8 + 1
          · rw [decide_eq_true hfull]
            rw [if_pos (by rw [hn]; exact hfull)] at E
            refine ax_ifZ_eq (q := 73) (q2 := 70) B d_S_make_67 rfl rfl (fun z => by cases z) (fun _ => ?_)
            refine ax_bipush (v := (-4)) (q := 72) B d_S_make_70 cb_m4 rfl ?_
            refine ax_iret B E d_S_make_72 ?_
            exact ⟨_, rfl, rfl, hS', fun q _ => rfl⟩
          · rw [decide_eq_false hfull]
            rw [if_neg (by rw [hn]; exact hfull)] at E
            refine ax_ifZ_eq (q := 73) (q2 := 70) B d_S_make_67 rfl rfl (fun _ => ?_) (fun z => by cases z)
            have tail : ∀ kind : Nat, (if b = true then 1 else 2) = kind → aw_X M G 6 92 [some (.inl (some 0)), some (.inr dir), some (.inr (nI x)), some (.inr (bI b)), some (.inl (some (4 + 2 + 2 * d))), some (.inr (nI m))] [.inr (nI kind), .inl (some (4 + 2 + 2 * m))] h := by
              intro kind hkind
              have hk12 : kind < 65536 := by rw [← hkind]; split <;> omega
              rw [hkind] at E
              refine ax_pV1 (q := 95) B cv_S_69 d_S_make_92 (by assumption) (Nat.le_of_ble_eq_true rfl) (by decide) (k_becomeNew hG.1 nm h _) rfl (fun h1 hh1 => ?_)
              have hT1 : hz_T 4 (pz_new t m kind) h1 := by rw [hh1]; exact new_T hT hm8 hk12
              have hcd1 : pz_ct (pz_new t m kind) d = pz_ct t d := pz_up_n (Ne.symm hmd)
              have hm1 : mz G k sp w h1 := hm.kept (by rw [hh1, hz_new_ne (by omega)]) (by rw [hh1, hz_new_ne (by omega)]) (by rw [hh1, hz_new_ne (by omega)])
              refine ax_aload (q := 97) B d_S_make_95 rfl rfl ?_
              refine ax_iload_n (q := 98) B d_S_make_97 rfl rfl rfl ?_
              refine ax_iload (q := 100) B d_S_make_98 rfl rfl ?_
              refine ax_pV2 (q := 103) B cv_S_72 d_S_make_100 (by assumption) (Nat.le_of_ble_eq_true rfl) (by decide) (k_addItem hG.1 nd (hT1 d hd8).2.1 (by rw [hcd1]; omega) _ _) rfl (fun h2 hh2 => ?_)
              have hT2 : hz_T 4 (pz_add (pz_new t m kind) d (16 * x + m)) h2 := by
                rw [hh2, Nat.mul_comm x 16]
                exact add_T hT1 hd8 (by rw [hcd1]; omega) (by omega)
              have hm2 : mz G k sp w h2 := hm1.kept (by rw [hh2, aw_u_ne (by omega), aw_u_ne (by omega), aw_u_ne (by omega)]) (by rw [hh2, aw_u_ne (by omega), aw_u_ne (by omega), aw_u_ne (by omega)]) (by rw [hh2, aw_u_ne (by omega), aw_u_ne (by omega), aw_u_ne (by omega)])
              refine ax_iload (q := 105) B d_S_make_103 rfl rfl ?_
              refine ax_iret B E d_S_make_105 ?_
              exact ⟨_, rfl, rfl, ⟨hn, hm2, hT2⟩, fun q hq => by rw [hh2, aw_u_ne (by omega), aw_u_ne (by omega), aw_u_ne (by omega), hh1, hz_new_ne (by omega)]⟩
            refine ax_aload_n (q := 74) B d_S_make_73 rfl rfl rfl ?_
            refine ax_getP (q := 77) B fl_S_30 rfl d_S_make_74 (by assumption) (by assumption) rfl ?_
            refine ax_getP (q := 80) B fl_S_65 rfl d_S_make_77 (by assumption) (by assumption) rfl ?_
            refine ax_iload (q := 82) B d_S_make_80 rfl rfl ?_
            refine ax_aaldN (q := 83) B d_S_make_82 (by assumption) rfl (by omega) (by omega) (by first | assumption | rfl) rfl ?_
            refine ax_iload_n (q := 84) B d_S_make_83 rfl rfl rfl ?_
            refine ax_ifZ_eq (q := 91) (q2 := 87) B d_S_make_84 rfl rfl (fun h84 => ?_) (fun h84 => ?_)
            · refine ax_iconst (v := nI 2) (q := 92) B d_S_make_91 ci_2 rfl ?_
              first | exact tail 2 (by rw [h84]; rfl) | exact tail 1 (by rw [h84]; rfl)
            · refine ax_iconst (v := nI 1) (q := 88) B d_S_make_87 ci_1 rfl ?_
              refine ax_goto (q := 92) B d_S_make_88 rfl ?_
              first | exact tail 2 (by rw [h84]; rfl) | exact tail 1 (by rw [h84]; rfl)
