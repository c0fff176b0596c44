theorem eI_N {a : Nat} (h : a < 8) : eI a = nI a := if_pos h
theorem eI_8 : eI 8 = -1 := rfl
theorem rnew {t : pz_T} {h : aw_H} {m x : Nat} (hT : rt t h) (hm : m < 8) (hx : x < 65536) : rt (pz_new t m x) (aw_u (aw_u (aw_u h 42 m (nI x)) 43 m (nI 0)) 45 m (nI 1)) := fun i hi => by
  obtain ⟨b1, b2, b3, b4, b5, b6, b7⟩ := hT i hi
  by_cases him : i = m
  · subst him
    have q1 : pz_kd (pz_new t i x) i = x := pz_up_s
    have q2 : pz_ct (pz_new t i x) i = 0 := pz_up_s
    have q3 : pz_ch (pz_new t i x) i = true := pz_up_s
    unfold rtN
    rw [q1, q2, q3]
    exact ⟨aw_rd (by omega) (aw_rd (by omega) aw_rs), aw_rd (by omega) aw_rs, aw_rs, hx, by omega, fun j hj => absurd hj (by omega), fun _ z => by cases z⟩
  · have q1 : pz_kd (pz_new t m x) i = pz_kd t i := pz_up_n him
    have q2 : pz_ct (pz_new t m x) i = pz_ct t i := pz_up_n him
    have q3 : pz_ch (pz_new t m x) i = pz_ch t i := pz_up_n him
    have q4 : pz_en (pz_new t m x) i = pz_en t i := pz_up_n him
    unfold rtN
    rw [q1, q2, q3, q4]
    exact ⟨aw_rd (by omega) (aw_rd (by omega) (aw_rd (by omega) b1)), aw_rd (by omega) (aw_rd (by omega) (aw_rd (by omega) b2)), aw_rd (by omega) (aw_rd (by omega) (aw_rd (by omega) b3)), b4, b5, fun j hj => ⟨aw_rd (by omega) (aw_rd (by omega) (aw_rd (by omega) (b6 j hj).1)), (b6 j hj).2⟩, fun z1 z2 => aw_rd (by omega) (aw_rd (by omega) (aw_rd (by omega) (b7 z1 z2)))⟩
theorem rgone {t : pz_T} {h : aw_H} {m : Nat} (hT : rt t h) (hm : m < 8) : rt (pz_gone t m) (aw_u (aw_u (aw_u h 42 m (nI 0)) 43 m (nI 0)) 45 m (nI 0)) := fun i hi => by
  obtain ⟨b1, b2, b3, b4, b5, b6, b7⟩ := hT i hi
  by_cases him : i = m
  · subst him
    have q1 : pz_kd (pz_gone t i) i = 0 := pz_up_s
    have q2 : pz_ct (pz_gone t i) i = 0 := pz_up_s
    have q3 : pz_ch (pz_gone t i) i = false := pz_up_s
    unfold rtN
    rw [q1, q2, q3]
    exact ⟨aw_rd (by omega) (aw_rd (by omega) aw_rs), aw_rd (by omega) aw_rs, aw_rs, by omega, by omega, fun j hj => absurd hj (by omega), fun z => absurd rfl z⟩
  · have q1 : pz_kd (pz_gone t m) i = pz_kd t i := pz_up_n him
    have q2 : pz_ct (pz_gone t m) i = pz_ct t i := pz_up_n him
    have q3 : pz_ch (pz_gone t m) i = pz_ch t i := pz_up_n him
    have q4 : pz_en (pz_gone t m) i = pz_en t i := pz_up_n him
    unfold rtN
    rw [q1, q2, q3, q4]
    exact ⟨aw_rd (by omega) (aw_rd (by omega) (aw_rd (by omega) b1)), aw_rd (by omega) (aw_rd (by omega) (aw_rd (by omega) b2)), aw_rd (by omega) (aw_rd (by omega) (aw_rd (by omega) b3)), b4, b5, fun j hj => ⟨aw_rd (by omega) (aw_rd (by omega) (aw_rd (by omega) (b6 j hj).1)), (b6 j hj).2⟩, fun z1 z2 => aw_rd (by omega) (aw_rd (by omega) (aw_rd (by omega) (b7 z1 z2)))⟩
theorem q_make {l : Launch} {G : aw_G} (hG : gr G) {h : aw_H} {S : pz_S} (hS : qz G S h) (hI : pz_inv S) (dir name : Int32) (b : Bool) : aw_F l G 3 Y_R_make [.inl (some 40), .inr dir, .inr name, .inr (bI b)] h (fun v h' => v = .inr (pz_make S dir name b).1 ∧ qz G (pz_make S dir name b).2 h' ∧ ∀ q, q < 40 → h' q = h q) := by
  obtain ⟨n, k, w, sp, t⟩ := S
  obtain ⟨-, -, -, -, -, -, hwf, -, -⟩ := hI
  have hwf : pz_wf k t := hwf
  have hS' := hS
  obtain ⟨hn, hw, hm, hT⟩ := hS
  have hn : n = aw_n G := hn
  have hw : rw_ w h := hw
  have hm : rm_ G k sp h := hm
  have hT : rt t h := hT
  have n2 := hG.1.2.2.2
  refine aw_met hG.1.1 (by decide) (Nat.le_of_ble_eq_true rfl) (fun M hM B E => ?_)
  show aw_X M G 6 0 [some (.inl (some 40)), some (.inr dir), some (.inr name), some (.inr (bI b)), none, none] [] h
  have i40 := hG.i40
  have a42 := hG.a42
  have a43 := hG.a43
  have a45 := hG.a45
  have r5 : aw_rM 40 5 = some 42 := rfl
  have r6 : aw_rM 40 6 = some 43 := rfl
  have r8 : aw_rM 40 8 = some 45 := rfl
  unfold pz_make at E
  refine ax_aload_n (q := 1) B d_R_make_0 rfl rfl rfl ?_
  refine ax_iload_n (q := 2) B d_R_make_1 rfl rfl rfl ?_
  refine ax_iconst (v := nI 1) (q := 3) B d_R_make_2 ci_1 rfl ?_
  refine ax_qV2 (q := 6) B cv_R_96 d_R_make_3 (by assumption) (Nat.le_of_ble_eq_true rfl) (by decide) (r_isKind hG hT dir (by omega)) rfl ?_
  cases hx : pz_nd t (fun c => c == 1) dir with
  | none =>
    simp only [hx] at E
    refine ax_ifZ_eq (q := 19) (q2 := 9) B d_R_make_6 rfl rfl (fun h6 => ?_) (fun h6 => ?_)
    · refine ax_iconst (v := (-1)) (q := 20) B d_R_make_19 ci_m1 rfl ?_
      refine ax_iret B E d_R_make_20 ?_
      exact ⟨_, rfl, rfl, hS', fun q _ => rfl⟩
    · cases h6
  | some d =>
    simp only [hx] at E
    obtain ⟨hd8, hk1, -⟩ := pz_nd_lt hx
    have hk1 : pz_kd t d = 1 := beq_iff_eq.mp hk1
    have ea := pz_nd_arg hx
    subst ea
    refine ax_ifZ_eq (q := 19) (q2 := 9) B d_R_make_6 rfl rfl (fun z => by cases z) (fun _ => ?_)
    cases hnm : pz_small name 100 with
    | false =>
      simp only [hnm, if_true] at E
      refine ax_iload_n (q := 10) B d_R_make_9 rfl rfl rfl ?_
      refine ax_if_lt (q := 19) (q2 := 13) B d_R_make_10 rfl rfl (fun h10 => ?_) (fun h10 => ?_)
      · refine ax_iconst (v := (-1)) (q := 20) B d_R_make_19 ci_m1 rfl ?_
        refine ax_iret B E d_R_make_20 ?_
        exact ⟨_, rfl, rfl, hS', fun q _ => rfl⟩
      · refine ax_iload_n (q := 14) B d_R_make_13 rfl rfl rfl ?_
        refine ax_bipush (v := nI 99) (q := 16) B d_R_make_14 cb_99 rfl ?_
        refine ax_icmp_le (q := 21) (q2 := 19) B d_R_make_16 rfl rfl (fun h16 => ?_) (fun h16 => ?_)
        · rw [pz_small_t h10 (i32_le (by omega) h16)] at hnm
          cases hnm
        · refine ax_iconst (v := (-1)) (q := 20) B d_R_make_19 ci_m1 rfl ?_
          refine ax_iret B E d_R_make_20 ?_
          exact ⟨_, rfl, rfl, hS', fun q _ => rfl⟩
    | true =>
      simp only [hnm, Bool.true_eq_false, if_false] at E
      obtain ⟨x, hx100, rfl⟩ := pz_small_e (by omega) hnm
      rw [nI_clamp (by omega)] at E
      have tail3 : ∀ m, m < 8 → pz_kd t m = 0 → pz_ix (pz_it t d) (nI x) (pz_ct t d) = none → pz_least (pz_kd t) 8 = some m → aw_X M G 6 69 [some (.inl (some 40)), some (.inr (nI d)), some (.inr (nI x)), some (.inr (bI b)), some (.inr (nI m)), none] [] h := by
        intro m hm8 hm0 hix hle
        simp only [hix, hle] at E
        have hmd : m ≠ d := fun z => by rw [z, hk1] at hm0; cases hm0
        have hcd : pz_ct t d ≤ 7 := hwf.ct hd8 hk1
        have hcl : pz_cw (pz_ch t) d m 8 8 ≤ 100 := by
          have := pz_cp_le (fun n => (pz_ch t n || n == d || n == m) && n != 8) 8
          unfold pz_cw
          omega
        have hC := r_changedWith (l := M.2.1) hG hT (a := d) (b := m) (g := 8) (by omega) (by omega) (by omega)
        rw [eI_N hd8, eI_N hm8, eI_8] at hC
        have tail4 : ∀ kind : Nat, (if b = true then 1 else 2) = kind → ¬ aw_n G < k + 0 + pz_cw (pz_ch t) d m 8 8 + 1 → ∀ u, aw_X M G 6 107 [some (.inl (some 40)), some (.inr (nI d)), some (.inr (nI x)), some (.inr (bI b)), some (.inr (nI m)), u] [.inr (nI kind), .inr (nI m), .inl (some 42)] h := by
          intro kind hkind hfull u
          have hk12 : kind < 65536 := by rw [← hkind]; split <;> omega
          rw [hkind, if_neg (by rw [hn]; exact hfull)] at E
          have hT1 := rnew hT hm8 hk12
          refine ax_iastN (q := 108) B d_R_make_107 (by assumption) rfl (by omega) (by omega) rfl ?_
          refine ax_aload_n (q := 109) B d_R_make_108 rfl rfl rfl ?_
          refine ax_getP (q := 112) B fl_R_16 rfl d_R_make_109 (by assumption) (by assumption) rfl ?_
          refine ax_iload (q := 114) B d_R_make_112 rfl rfl ?_
          refine ax_iconst (v := nI 0) (q := 115) B d_R_make_114 ci_0 rfl ?_
          refine ax_iastN (q := 116) B d_R_make_115 (by assumption) rfl (by omega) (by omega) rfl ?_
          refine ax_aload_n (q := 117) B d_R_make_116 rfl rfl rfl ?_
          refine ax_getP (q := 120) B fl_R_22 rfl d_R_make_117 (by assumption) (by assumption) rfl ?_
          refine ax_iload (q := 122) B d_R_make_120 rfl rfl ?_
          refine ax_iconst (v := nI 1) (q := 123) B d_R_make_122 ci_1 rfl ?_
          refine ax_zastN (q := 124) B d_R_make_123 (by assumption) rfl (by omega) (by omega) (by first | exact bI_or _ | decide) rfl ?_
          obtain ⟨h1, hh1⟩ : ∃ h1, h1 = aw_u (aw_u (aw_u h 42 m (nI kind)) 43 m (nI 0)) 45 m (nI 1) := ⟨_, rfl⟩
          rw [← hh1] at hT1 ⊢
          have hf1 : ∀ q, q < 42 ∨ 46 ≤ q → h1 q = h q := fun q hq => by rw [hh1, aw_u_ne (by omega), aw_u_ne (by omega), aw_u_ne (by omega)]
          have hcd1 : pz_ct (pz_new t m kind) d = pz_ct t d := pz_up_n (Ne.symm hmd)
          refine ax_aload_n (q := 125) B d_R_make_124 rfl rfl rfl ?_
          refine ax_iload_n (q := 126) B d_R_make_125 rfl rfl rfl ?_
          refine ax_bipush (v := nI 16) (q := 128) B d_R_make_126 cb_16 rfl ?_
          refine ax_iload_n (q := 129) B d_R_make_128 rfl rfl rfl ?_
          first | refine ax_imulN (q := 130) B d_R_make_129 rfl ?_ | refine ax_imul (q := 130) B d_R_make_129 rfl ?_
          refine ax_iload (q := 132) B d_R_make_130 rfl rfl ?_
          first | refine ax_iaddN (q := 133) B d_R_make_132 rfl ?_ | refine ax_iadd (q := 133) B d_R_make_132 rfl ?_
          refine ax_pV2 (q := 136) B cv_R_110 d_R_make_133 (by assumption) (Nat.le_of_ble_eq_true rfl) (by decide) (r_add hG hT1 hd8 (by rw [hcd1]; omega) (by omega)) rfl (fun h2 hh2 => ?_)
          refine ax_iload (q := 138) B d_R_make_136 rfl rfl ?_
          refine ax_iret B E d_R_make_138 ?_
          exact ⟨_, rfl, rfl, ⟨hn, hw.kept (by rw [hh2.2 41 (by omega), hf1 41 (by omega)]), hm.kept (by rw [hh2.2 40 (by omega), hf1 40 (by omega)]), hh2.1⟩, fun q hq => by rw [hh2.2 q (by omega), hf1 q (by omega)]⟩
        refine ax_aload_n (q := 70) B d_R_make_69 rfl rfl rfl ?_
        refine ax_iload_n (q := 71) B d_R_make_70 rfl rfl rfl ?_
        refine ax_iload (q := 73) B d_R_make_71 rfl rfl ?_
        refine ax_iconst (v := (-1)) (q := 74) B d_R_make_73 ci_m1 rfl ?_
        refine ax_qV3 (q := 77) B cv_R_103 d_R_make_74 (by assumption) (Nat.le_of_ble_eq_true rfl) (by decide) hC rfl ?_
        refine ax_istore (q := 79) B d_R_make_77 (by decide) rfl ?_
        refine ax_aload_n (q := 80) B d_R_make_79 rfl rfl rfl ?_
        refine ax_iconst (v := nI 0) (q := 81) B d_R_make_80 ci_0 rfl ?_
        refine ax_iload (q := 83) B d_R_make_81 rfl rfl ?_
        refine ax_qV2 (q := 86) B cv_R_107 d_R_make_83 (by assumption) (Nat.le_of_ble_eq_true rfl) (by decide) (r_tooFew hG hm.1 hm.2.1 n2 hm.2.2.1 (by omega) hcl) rfl ?_
        refine ax_ifZ_eq (q := 92) (q2 := 89) B d_R_make_86 rfl rfl (fun h86 => ?_) (fun h86 => ?_)
        · refine ax_aload_n (q := 93) B d_R_make_92 rfl rfl rfl ?_
          refine ax_getP (q := 96) B fl_R_13 rfl d_R_make_93 (by assumption) (by assumption) rfl ?_
          refine ax_iload (q := 98) B d_R_make_96 rfl rfl ?_
          refine ax_iload_n (q := 99) B d_R_make_98 rfl rfl rfl ?_
          refine ax_ifZ_eq (q := 106) (q2 := 102) B d_R_make_99 rfl rfl (fun h99 => ?_) (fun h99 => ?_)
          · refine ax_iconst (v := nI 2) (q := 107) B d_R_make_106 ci_2 rfl ?_
            first | exact tail4 2 (by rw [h99]; rfl) (of_decide_eq_false h86) _ | exact tail4 1 (by rw [h99]; rfl) (of_decide_eq_false h86) _
          · refine ax_iconst (v := nI 1) (q := 103) B d_R_make_102 ci_1 rfl ?_
            refine ax_goto (q := 107) B d_R_make_103 rfl ?_
            first | exact tail4 2 (by rw [h99]; rfl) (of_decide_eq_false h86) _ | exact tail4 1 (by rw [h99]; rfl) (of_decide_eq_false h86) _
        · rw [if_pos (by rw [hn]; exact of_decide_eq_true h86)] at E
          refine ax_bipush (v := (-4)) (q := 91) B d_R_make_89 cb_m4 rfl ?_
          refine ax_iret B E d_R_make_91 ?_
          exact ⟨_, rfl, rfl, hS', fun q _ => rfl⟩
      have mono : ∀ j i, pz_least (pz_kd t) j = some i → ∀ m, pz_least (pz_kd t) (j + m) = some i := by
        intro j i hj m
        induction m with
        | zero => exact hj
        | succ m ih =>
          show (match pz_least (pz_kd t) (j + m) with | some i => some i | none => if pz_kd t (j + m) = 0 then some (j + m) else none) = _
          rw [ih]
      have loop : pz_ix (pz_it t d) (nI x) (pz_ct t d) = none → ∀ m j, j + m = 8 → pz_least (pz_kd t) j = none → aw_X M G 6 36 [some (.inl (some 40)), some (.inr (nI d)), some (.inr (nI x)), some (.inr (bI b)), some (.inr (nI j)), none] [] h := by
        intro hix m
        induction m with
        | zero =>
          intro j hj hz
          have hj : j = 8 := by omega
          subst hj
          simp only [hix, hz] at E
          refine ax_iload (q := 38) B d_R_make_36 rfl rfl ?_
          refine ax_bipush (v := nI 8) (q := 40) B d_R_make_38 cb_8 rfl ?_
          refine ax_icmpN_ge (q := 59) (q2 := 43) B (by omega) (by omega) d_R_make_40 rfl rfl (fun h40 => ?_) (fun h40 => ?_)
          · refine ax_iload (q := 61) B d_R_make_59 rfl rfl ?_
            refine ax_bipush (v := nI 8) (q := 63) B d_R_make_61 cb_8 rfl ?_
            refine ax_icmpN_ne (q := 69) (q2 := 66) B (by omega) (by omega) d_R_make_63 rfl rfl (fun h63 => ?_) (fun h63 => ?_)
            · omega
            · refine ax_bipush (v := (-3)) (q := 68) B d_R_make_66 cb_m3 rfl ?_
              refine ax_iret B E d_R_make_68 ?_
              exact ⟨_, rfl, rfl, hS', fun q _ => rfl⟩
          · omega
        | succ m ih =>
          intro j hj hz
          obtain ⟨ej, -, -, lk, -⟩ := hT j (by omega)
          have hs : pz_least (pz_kd t) (j + 1) = if pz_kd t j = 0 then some j else none := by
            show (match pz_least (pz_kd t) j with | some i => some i | none => if pz_kd t j = 0 then some j else none) = _
            rw [hz]
          refine ax_iload (q := 38) B d_R_make_36 rfl rfl ?_
          refine ax_bipush (v := nI 8) (q := 40) B d_R_make_38 cb_8 rfl ?_
          refine ax_icmpN_ge (q := 59) (q2 := 43) B (by omega) (by omega) d_R_make_40 rfl rfl (fun h40 => ?_) (fun h40 => ?_)
          · refine ax_iload (q := 61) B d_R_make_59 rfl rfl ?_
            refine ax_bipush (v := nI 8) (q := 63) B d_R_make_61 cb_8 rfl ?_
            refine ax_icmpN_ne (q := 69) (q2 := 66) B (by omega) (by omega) d_R_make_63 rfl rfl (fun h63 => ?_) (fun h63 => ?_)
            · first | (exfalso; omega) | (have h8 := mono (j + 1) j (by rw [hs, if_pos h50]) m; rw [show j + 1 + m = 8 by omega] at h8; exact tail3 j (by omega) h50 hix h8)
            · omega
          · refine ax_aload_n (q := 44) B d_R_make_43 rfl rfl rfl ?_
            refine ax_getP (q := 47) B fl_R_13 rfl d_R_make_44 (by assumption) (by assumption) rfl ?_
            refine ax_iload (q := 49) B d_R_make_47 rfl rfl ?_
            refine ax_ialdN (q := 50) B d_R_make_49 (by assumption) rfl (by omega) (by omega) (by first | assumption | rfl) rfl ?_
            refine ax_ifN_eq (q := 59) (q2 := 53) B (by omega) d_R_make_50 rfl rfl (fun h50 => ?_) (fun h50 => ?_)
            · refine ax_iload (q := 61) B d_R_make_59 rfl rfl ?_
              refine ax_bipush (v := nI 8) (q := 63) B d_R_make_61 cb_8 rfl ?_
              refine ax_icmpN_ne (q := 69) (q2 := 66) B (by omega) (by omega) d_R_make_63 rfl rfl (fun h63 => ?_) (fun h63 => ?_)
              · first | (exfalso; omega) | (have h8 := mono (j + 1) j (by rw [hs, if_pos h50]) m; rw [show j + 1 + m = 8 by omega] at h8; exact tail3 j (by omega) h50 hix h8)
              · omega
            · refine ax_iincN (j := 1) (q := 56) B d_R_make_53 rfl ii_1 (by decide) rfl ?_
              refine ax_goto (q := 36) B d_R_make_56 rfl ?_
              exact ih (j + 1) (by omega) (by rw [hs, if_neg (by omega)])
      have start : aw_X M G 6 21 [some (.inl (some 40)), some (.inr (nI d)), some (.inr (nI x)), some (.inr (bI b)), none, none] [] h := by
        refine ax_aload_n (q := 22) B d_R_make_21 rfl rfl rfl ?_
        refine ax_iload_n (q := 23) B d_R_make_22 rfl rfl rfl ?_
        refine ax_iload_n (q := 24) B d_R_make_23 rfl rfl rfl ?_
        refine ax_qV2 (q := 27) B cv_R_100 d_R_make_24 (by assumption) (Nat.le_of_ble_eq_true rfl) (by decide) (r_itemOf hG hT hd8 _) rfl ?_
        cases hix : pz_ix (pz_it t d) (nI x) (pz_ct t d) with
        | some j =>
          simp only [hix] at E
          have hj := pz_ix_lt _ hix
          have hcd : pz_ct t d ≤ 7 := hwf.ct hd8 hk1
          show aw_X M G 6 27 [some (.inl (some 40)), some (.inr (nI d)), some (.inr (nI x)), some (.inr (bI b)), none, none] [.inr (nI j)] h
          refine ax_ifN_lt (q := 33) (q2 := 30) B (by omega) d_R_make_27 rfl rfl ?_
          refine ax_bipush (v := (-2)) (q := 32) B d_R_make_30 cb_m2 rfl ?_
          refine ax_iret B E d_R_make_32 ?_
          exact ⟨_, rfl, rfl, hS', fun q _ => rfl⟩
        | none =>
          refine ax_if_lt (q := 33) (q2 := 30) B d_R_make_27 rfl rfl (fun h27 => ?_) (fun h27 => ?_)
          · refine ax_iconst (v := nI 0) (q := 34) B d_R_make_33 ci_0 rfl ?_
            refine ax_istore (q := 36) B d_R_make_34 (by decide) rfl ?_
            exact loop hix 8 0 rfl rfl
          · exact absurd (by decide) h27
      refine ax_iload_n (q := 10) B d_R_make_9 rfl rfl rfl ?_
      refine ax_ifN_lt (q := 19) (q2 := 13) B (by omega) d_R_make_10 rfl rfl ?_
      refine ax_iload_n (q := 14) B d_R_make_13 rfl rfl rfl ?_
      refine ax_bipush (v := nI 99) (q := 16) B d_R_make_14 cb_99 rfl ?_
      refine ax_icmpN_le (q := 21) (q2 := 19) B (by omega) (by omega) d_R_make_16 rfl rfl (fun h16 => ?_) (fun h16 => ?_)
      · exact start
      · omega
