theorem q_move {l : Launch} {G : aw_G} (hG : gr G) {h : aw_H} {S : pz_S} (hS : qz G S h) (hI : pz_inv S) (dir name to as : Int32) : aw_F l G 3 Y_R_move [.inl (some 40), .inr dir, .inr name, .inr to, .inr as] h (fun v h' => v = .inr (pz_move S dir name to as).1 ∧ qz G (pz_move S dir name to as).2 h' ∧ ∀ q, q < 40 → h' q = h q) := by
  obtain ⟨n, k, w, sp, t⟩ := S
  obtain ⟨-, -, -, -, -, -, hwf, -, -⟩ := hI
  have hwf : pz_wf k t := hwf
  have hS' := hS
  obtain ⟨hn, hw, hm, hT⟩ := hS
  have hn : n = aw_n G := hn
  have hw : rw_ w h := hw
  have hm : rm_ G k sp h := hm
  have hT : rt t h := hT
  have n2 := hG.1.2.2.2
  refine aw_met hG.1.1 (by decide) (Nat.le_of_ble_eq_true rfl) (fun M hM B E => ?_)
  show aw_X M G 8 0 [some (.inl (some 40)), some (.inr dir), some (.inr name), some (.inr to), some (.inr as), none, none, none] [] h
  have i40 := hG.i40
  have a44 := hG.a44
  have r7 : aw_rM 40 7 = some 44 := rfl
  unfold pz_move at E
  refine ax_aload_n (q := 1) B d_R_move_0 rfl rfl rfl ?_
  refine ax_iload_n (q := 2) B d_R_move_1 rfl rfl rfl ?_
  refine ax_iconst (v := nI 1) (q := 3) B d_R_move_2 ci_1 rfl ?_
  refine ax_qV2 (q := 6) B cv_R_96 d_R_move_3 (by assumption) (Nat.le_of_ble_eq_true rfl) (by decide) (r_isKind hG hT dir (by omega)) rfl ?_
  cases hx : pz_nd t (fun c => c == 1) dir with
  | none =>
    simp only [hx] at E
    refine ax_ifZ_eq (q := 18) (q2 := 9) B d_R_move_6 rfl rfl (fun h6 => ?_) (fun h6 => ?_)
    · refine ax_iconst (v := (-1)) (q := 19) B d_R_move_18 ci_m1 rfl ?_
      refine ax_istore (q := 21) B d_R_move_19 (by decide) rfl ?_
      refine ax_iload (q := 23) B d_R_move_21 rfl rfl ?_
      refine ax_if_lt (q := 47) (q2 := 26) B d_R_move_23 rfl rfl (fun h23 => ?_) (fun h23 => ?_)
      · refine ax_iconst (v := (-1)) (q := 48) B d_R_move_47 ci_m1 rfl ?_
        refine ax_iret B E d_R_move_48 ?_
        exact ⟨_, rfl, rfl, hS', fun q _ => rfl⟩
      · exact absurd (by decide) h23
    · cases h6
  | some d =>
    obtain ⟨hd8, hk1, -⟩ := pz_nd_lt hx
    have hk1 : pz_kd t d = 1 := beq_iff_eq.mp hk1
    have ea := pz_nd_arg hx
    subst ea
    refine ax_ifZ_eq (q := 18) (q2 := 9) B d_R_move_6 rfl rfl (fun z => by cases z) (fun _ => ?_)
    refine ax_aload_n (q := 10) B d_R_move_9 rfl rfl rfl ?_
    refine ax_iload_n (q := 11) B d_R_move_10 rfl rfl rfl ?_
    refine ax_iload_n (q := 12) B d_R_move_11 rfl rfl rfl ?_
    refine ax_qV2 (q := 15) B cv_R_100 d_R_move_12 (by assumption) (Nat.le_of_ble_eq_true rfl) (by decide) (r_itemOf hG hT hd8 _) rfl ?_
    cases hix : pz_ix (pz_it t d) name (pz_ct t d) with
    | none =>
      have E : aw_E M G (some .int) (fun r h' => ∃ v, r = some v ∧ (v = .inr (-1) ∧ qz G (n, k, w, sp, t) h' ∧ ∀ q, q < 40 → h' q = h q)) := by
        simp only [hx, hix] at E
        cases hx2 : pz_nd t (fun c => c == 1) to with
        | none => simp only [hx2] at E; exact E
        | some e =>
          simp only [hx2] at E
          cases hnm : pz_small as 100 with
          | false => simp only [hnm, if_true] at E; exact E
          | true => simp only [hnm, Bool.true_eq_false, if_false] at E; exact E
      refine ax_goto (q := 19) B d_R_move_15 rfl ?_
      refine ax_istore (q := 21) B d_R_move_19 (by decide) rfl ?_
      refine ax_iload (q := 23) B d_R_move_21 rfl rfl ?_
      refine ax_if_lt (q := 47) (q2 := 26) B d_R_move_23 rfl rfl (fun h23 => ?_) (fun h23 => ?_)
      · refine ax_iconst (v := (-1)) (q := 48) B d_R_move_47 ci_m1 rfl ?_
        refine ax_iret B E d_R_move_48 ?_
        exact ⟨_, rfl, rfl, hS', fun q _ => rfl⟩
      · exact absurd (by decide) h23
    | some j =>
      have hj := pz_ix_lt _ hix
      have hcd : pz_ct t d ≤ 7 := hwf.ct hd8 hk1
      show aw_X M G 8 15 [some (.inl (some 40)), some (.inr (nI d)), some (.inr name), some (.inr to), some (.inr as), none, none, none] [.inr (nI j)] h
      refine ax_goto (q := 19) B d_R_move_15 rfl ?_
      refine ax_istore (q := 21) B d_R_move_19 (by decide) rfl ?_
      refine ax_iload (q := 23) B d_R_move_21 rfl rfl ?_
      refine ax_ifN_lt (q := 47) (q2 := 26) B (by omega) d_R_move_23 rfl rfl ?_
      refine ax_aload_n (q := 27) B d_R_move_26 rfl rfl rfl ?_
      refine ax_iload_n (q := 28) B d_R_move_27 rfl rfl rfl ?_
      refine ax_iconst (v := nI 1) (q := 29) B d_R_move_28 ci_1 rfl ?_
      refine ax_qV2 (q := 32) B cv_R_96 d_R_move_29 (by assumption) (Nat.le_of_ble_eq_true rfl) (by decide) (r_isKind hG hT to (by omega)) rfl ?_
      cases hx2 : pz_nd t (fun c => c == 1) to with
      | none =>
        simp only [hx, hx2] at E
        refine ax_ifZ_eq (q := 47) (q2 := 35) B d_R_move_32 rfl rfl (fun h32 => ?_) (fun h32 => ?_)
        · refine ax_iconst (v := (-1)) (q := 48) B d_R_move_47 ci_m1 rfl ?_
          refine ax_iret B E d_R_move_48 ?_
          exact ⟨_, rfl, rfl, hS', fun q _ => rfl⟩
        · cases h32
      | some e =>
        obtain ⟨he8, hk1', -⟩ := pz_nd_lt hx2
        have hk1' : pz_kd t e = 1 := beq_iff_eq.mp hk1'
        have eb := pz_nd_arg hx2
        subst eb
        have hce := hwf.ct he8 hk1'
        simp only [hx, hx2] at E
        refine ax_ifZ_eq (q := 47) (q2 := 35) B d_R_move_32 rfl rfl (fun z => by cases z) (fun _ => ?_)
        cases hnm : pz_small as 100 with
        | false =>
          simp only [hnm, if_true] at E
          refine ax_iload (q := 37) B d_R_move_35 rfl rfl ?_
          refine ax_if_lt (q := 47) (q2 := 40) B d_R_move_37 rfl rfl (fun h37 => ?_) (fun h37 => ?_)
          · refine ax_iconst (v := (-1)) (q := 48) B d_R_move_47 ci_m1 rfl ?_
            refine ax_iret B E d_R_move_48 ?_
            exact ⟨_, rfl, rfl, hS', fun q _ => rfl⟩
          · refine ax_iload (q := 42) B d_R_move_40 rfl rfl ?_
            refine ax_bipush (v := nI 99) (q := 44) B d_R_move_42 cb_99 rfl ?_
            refine ax_icmp_le (q := 49) (q2 := 47) B d_R_move_44 rfl rfl (fun h44 => ?_) (fun h44 => ?_)
            · rw [pz_small_t h37 (i32_le (by omega) h44)] at hnm
              cases hnm
            · refine ax_iconst (v := (-1)) (q := 48) B d_R_move_47 ci_m1 rfl ?_
              refine ax_iret B E d_R_move_48 ?_
              exact ⟨_, rfl, rfl, hS', fun q _ => rfl⟩
        | true =>
          simp only [hnm, Bool.true_eq_false, if_false, hix] at E
          obtain ⟨x, hx100, rfl⟩ := pz_small_e (by omega) hnm
          rw [nI_clamp (by omega)] at E
          obtain ⟨-, hm8, hm0, hmd, hmk⟩ := hwf.2.2.2.2.1 d hd8 hk1 j hj
          obtain ⟨ej, lj⟩ := (hT d hd8).2.2.2.2.2.1 j hj
          obtain ⟨m, hmm⟩ : ∃ m, m = pz_it t d j % 16 := ⟨_, rfl⟩
          rw [← hmm] at hm8 hm0 hmd hmk E
          have start : aw_X M G 8 49 [some (.inl (some 40)), some (.inr (nI d)), some (.inr name), some (.inr (nI e)), some (.inr (nI x)), some (.inr (nI j)), none, none] [] h := by
            refine ax_aload_n (q := 50) B d_R_move_49 rfl rfl rfl ?_
            refine ax_iload_n (q := 51) B d_R_move_50 rfl rfl rfl ?_
            refine ax_iload (q := 53) B d_R_move_51 rfl rfl ?_
            refine ax_qV2 (q := 56) B cv_R_100 d_R_move_53 (by assumption) (Nat.le_of_ble_eq_true rfl) (by decide) (r_itemOf hG hT he8 _) rfl ?_
            cases hix2 : pz_ix (pz_it t e) (nI x) (pz_ct t e) with
            | some j2 =>
              simp only [hix2] at E
              have hj2 := pz_ix_lt _ hix2
              show aw_X M G 8 56 [some (.inl (some 40)), some (.inr (nI d)), some (.inr name), some (.inr (nI e)), some (.inr (nI x)), some (.inr (nI j)), none, none] [.inr (nI j2)] h
              refine ax_ifN_lt (q := 62) (q2 := 59) B (by omega) d_R_move_56 rfl rfl ?_
              refine ax_bipush (v := (-2)) (q := 61) B d_R_move_59 cb_m2 rfl ?_
              refine ax_iret B E d_R_move_61 ?_
              exact ⟨_, rfl, rfl, hS', fun q _ => rfl⟩
            | none =>
              simp only [hix2] at E
              have tail : aw_X M G 8 62 [some (.inl (some 40)), some (.inr (nI d)), some (.inr name), some (.inr (nI e)), some (.inr (nI x)), some (.inr (nI j)), none, none] [] h := by
                refine ax_aload_n (q := 63) B d_R_move_62 rfl rfl rfl ?_
                refine ax_getP (q := 66) B fl_R_19 rfl d_R_move_63 (by assumption) (by assumption) rfl ?_
                refine ax_bipush (v := nI 10) (q := 68) B d_R_move_66 cb_10 rfl ?_
                refine ax_iload_n (q := 69) B d_R_move_68 rfl rfl rfl ?_
                first | refine ax_imulN (q := 70) B d_R_move_69 rfl ?_ | refine ax_imul (q := 70) B d_R_move_69 rfl ?_
                refine ax_iload (q := 72) B d_R_move_70 rfl rfl ?_
                first | refine ax_iaddN (q := 73) B d_R_move_72 rfl ?_ | refine ax_iadd (q := 73) B d_R_move_72 rfl ?_
                refine ax_ialdN (q := 74) B d_R_move_73 (by assumption) rfl (by omega) (by omega) (by first | assumption | rfl) rfl ?_
                refine ax_bipush (v := nI 16) (q := 76) B d_R_move_74 cb_16 rfl ?_
                refine ax_iremN (q := 77) B (by omega) (by omega) (by omega) d_R_move_76 rfl ?_
                refine ax_top (congrArg nI hmm.symm) ?_
                refine ax_istore (q := 79) B d_R_move_77 (by decide) rfl ?_
                refine ax_aload_n (q := 80) B d_R_move_79 rfl rfl rfl ?_
                refine ax_iload_n (q := 81) B d_R_move_80 rfl rfl rfl ?_
                refine ax_iload (q := 83) B d_R_move_81 rfl rfl ?_
                refine ax_gV2 (q := 86) B cv_R_124 d_R_move_83 (by assumption) (Nat.le_of_ble_eq_true rfl) (by decide) (r_isBelow hG hT (fun i hi8 hki s hs => (hwf.2.2.2.2.1 i hi8 hki s hs).2.1) he8 hm8) rfl (fun r h1 hh1 => ?_)
                obtain ⟨rfl, hf1⟩ := hh1
                rw [pz_below_eq hwf he8 hm8]
                have hS1 : qz G (n, k, w, sp, t) h1 := hS'.kept (fun q q1 q2 => hf1 q (by omega))
                have fr1 : ∀ q, q < 40 → h1 q = h q := fun q hq => hf1 q (by omega)
                have hT1 : rt t h1 := hS1.2.2.2
                have hm1 : rm_ G k sp h1 := hS1.2.2.1
                have hw1 : rw_ w h1 := hS1.2.1
                have hcl := pz_cw_100 (pz_ch t) d e 8
                have hC := r_changedWith (l := M.2.1) hG hT1 (a := d) (b := e) (g := 8) (by omega) (by omega) (by omega)
                rw [eI_N hd8, eI_N he8, eI_8] at hC
                cases hbl : pz_below t e m 8 with
                | true =>
                  rw [if_pos hbl] at E
                  refine ax_ifZ_eq (q := 92) (q2 := 89) B d_R_move_86 rfl rfl (fun h86 => ?_) (fun h86 => ?_)
                  · cases h86
                  · refine ax_bipush (v := (-7)) (q := 91) B d_R_move_89 cb_m7 rfl ?_
                    refine ax_iret B E d_R_move_91 ?_
                    exact ⟨_, rfl, rfl, hS1, fr1⟩
                | false =>
                  rw [if_neg (by rw [hbl]; decide)] at E
                  refine ax_ifZ_eq (q := 92) (q2 := 89) B d_R_move_86 rfl rfl (fun _ => ?_) (fun z => by cases z)
                  have tail3 : ¬ aw_n G < k + 0 + pz_cw (pz_ch t) d e 8 8 + 1 → ∀ u, aw_X M G 8 114 [some (.inl (some 40)), some (.inr (nI d)), some (.inr name), some (.inr (nI e)), some (.inr (nI x)), some (.inr (nI j)), some (.inr (nI m)), u] [] h1 := by
                    intro hfull u
                    rw [if_neg (by rw [hn]; exact hfull)] at E
                    refine ax_aload_n (q := 115) B d_R_move_114 rfl rfl rfl ?_
                    refine ax_iload_n (q := 116) B d_R_move_115 rfl rfl rfl ?_
                    refine ax_iload (q := 118) B d_R_move_116 rfl rfl ?_
                    refine ax_pV2 (q := 121) B cv_R_121 d_R_move_118 (by assumption) (Nat.le_of_ble_eq_true rfl) (by decide) (r_take hG hT1 hd8 hj) rfl (fun h2 hh2 => ?_)
                    have hct : pz_ct (pz_take t d j) e ≤ 7 := by
                      by_cases hed : e = d
                      · subst hed
                        have e2 : pz_ct (pz_take t e j) e = pz_ct t e - 1 := pz_up_s
                        omega
                      · have e2 : pz_ct (pz_take t d j) e = pz_ct t e := pz_up_n hed
                        omega
                    refine ax_aload_n (q := 122) B d_R_move_121 rfl rfl rfl ?_
                    refine ax_iload_n (q := 123) B d_R_move_122 rfl rfl rfl ?_
                    refine ax_bipush (v := nI 16) (q := 125) B d_R_move_123 cb_16 rfl ?_
                    refine ax_iload (q := 127) B d_R_move_125 rfl rfl ?_
                    first | refine ax_imulN (q := 128) B d_R_move_127 rfl ?_ | refine ax_imul (q := 128) B d_R_move_127 rfl ?_
                    refine ax_iload (q := 130) B d_R_move_128 rfl rfl ?_
                    first | refine ax_iaddN (q := 131) B d_R_move_130 rfl ?_ | refine ax_iadd (q := 131) B d_R_move_130 rfl ?_
                    refine ax_pV2 (q := 134) B cv_R_110 d_R_move_131 (by assumption) (Nat.le_of_ble_eq_true rfl) (by decide) (r_add hG hh2.1 he8 (by omega) (by omega)) rfl (fun h3 hh3 => ?_)
                    refine ax_iload (q := 136) B d_R_move_134 rfl rfl ?_
                    refine ax_iret B E d_R_move_136 ?_
                    exact ⟨_, rfl, rfl, ⟨hn, hw1.kept (by rw [hh3.2 41 (by omega), hh2.2 41 (by omega)]), hm1.kept (by rw [hh3.2 40 (by omega), hh2.2 40 (by omega)]), hh3.1⟩, fun q hq => by rw [hh3.2 q (by omega), hh2.2 q (by omega), fr1 q hq]⟩
                  refine ax_aload_n (q := 93) B d_R_move_92 rfl rfl rfl ?_
                  refine ax_iload_n (q := 94) B d_R_move_93 rfl rfl rfl ?_
                  refine ax_iload_n (q := 95) B d_R_move_94 rfl rfl rfl ?_
                  refine ax_iconst (v := (-1)) (q := 96) B d_R_move_95 ci_m1 rfl ?_
                  refine ax_qV3 (q := 99) B cv_R_103 d_R_move_96 (by assumption) (Nat.le_of_ble_eq_true rfl) (by decide) hC rfl ?_
                  refine ax_istore (q := 101) B d_R_move_99 (by decide) rfl ?_
                  refine ax_aload_n (q := 102) B d_R_move_101 rfl rfl rfl ?_
                  refine ax_iconst (v := nI 0) (q := 103) B d_R_move_102 ci_0 rfl ?_
                  refine ax_iload (q := 105) B d_R_move_103 rfl rfl ?_
                  refine ax_qV2 (q := 108) B cv_R_107 d_R_move_105 (by assumption) (Nat.le_of_ble_eq_true rfl) (by decide) (r_tooFew hG hm1.1 hm1.2.1 n2 hm1.2.2.1 (by omega) hcl) rfl ?_
                  refine ax_ifZ_eq (q := 114) (q2 := 111) B d_R_move_108 rfl rfl (fun h108 => ?_) (fun h108 => ?_)
                  · exact tail3 (of_decide_eq_false h108) _
                  · rw [if_pos (by rw [hn]; exact of_decide_eq_true h108)] at E
                    refine ax_bipush (v := (-4)) (q := 113) B d_R_move_111 cb_m4 rfl ?_
                    refine ax_iret B E d_R_move_113 ?_
                    exact ⟨_, rfl, rfl, hS1, fr1⟩
              refine ax_if_lt (q := 62) (q2 := 59) B d_R_move_56 rfl rfl (fun h56 => ?_) (fun h56 => ?_)
              · exact tail
              · exact absurd (by decide) h56
          refine ax_iload (q := 37) B d_R_move_35 rfl rfl ?_
          refine ax_ifN_lt (q := 47) (q2 := 40) B (by omega) d_R_move_37 rfl rfl ?_
          refine ax_iload (q := 42) B d_R_move_40 rfl rfl ?_
          refine ax_bipush (v := nI 99) (q := 44) B d_R_move_42 cb_99 rfl ?_
          refine ax_icmpN_le (q := 49) (q2 := 47) B (by omega) (by omega) d_R_move_44 rfl rfl (fun h44 => ?_) (fun h44 => ?_)
          · exact start
          · omega
/-- while the reference writes the entries: its marks stay, its entries are new -/
def pz_tr (t : pz_T) (en : Nat → Nat) : pz_T := (pz_kd t, pz_ct t, pz_ch t, en, pz_it t)
theorem r_writeEntry {l : Launch} {G : aw_G} (hG : gr G) {h : aw_H} {k sp : Nat} {w : Nat → Nat} {t : pz_T} (hw : rw_ w h) (hm : rm_ G k sp h) (hT : rt t h) (hk : k < aw_n G) (hi : iz k w) {i : Nat} (hi8 : i < 8) :
    aw_F l G 7 Y_R_writeEntry [.inl (some 40), .inr (nI i)] h (fun v h' => v = .inr (bI (decide (sp ≠ 1))) ∧ rw_ (pz_sec w k (pz_entry k i t) (sp == 1)) h' ∧ rm_ G (k + 1) (sp - 1) h' ∧ (sp = 1 → rt (pz_back (pz_sec w k (pz_entry k i t) true) (k + 1)) h') ∧ (sp ≠ 1 → (∀ q, 42 ≤ q → q < 46 → h' q = h q) ∧ h' 46 = upd (h 46) i (nI k)) ∧ ∀ q, q < 40 → h' q = h q) := by
  refine aw_met hG.1.1 (by decide) (Nat.le_of_ble_eq_true rfl) (fun M hM B E => ?_)
  show aw_X M G 3 0 [some (.inl (some 40)), some (.inr (nI i)), none] [] h
  have i40 := hG.i40
  have a42 := hG.a42
  have a43 := hG.a43
  have a44 := hG.a44
  have a46 := hG.a46
  have a50 := hG.a50
  have r5 : aw_rM 40 5 = some 42 := rfl
  have r6 : aw_rM 40 6 = some 43 := rfl
  have r7 : aw_rM 40 7 = some 44 := rfl
  have r9 : aw_rM 40 9 = some 46 := rfl
  have r13 : aw_rM 40 13 = some 50 := rfl
  have n2 := hG.1.2.2.2
  have e2 := hm.2.1
  obtain ⟨b1, b2, -, lk, lc, hit, -⟩ := hT i hi8
  have loop : ∀ m j (f : aw_H) (g : Nat → Nat), j + m = pz_ct t i → secz g f → (∀ x, x < 16 → x ≠ 1 → g x = pz_entJ k i t j x) → (∀ q, q ≠ 50 → f q = h q) → aw_X M G 3 32 [some (.inl (some 40)), some (.inr (nI i)), some (.inr (nI j))] [] f := by
    intro m
    induction m with
    | zero =>
      intro j f g hj hsec hg hf
      have hj : j = pz_ct t i := by omega
      subst hj
      have f2 : f 43 i = nI (pz_ct t i) := by rw [hf 43 (by omega)]; exact b2
      have fk : f 40 2 = nI k := by rw [hf 40 (by omega)]; exact e2
      have hg2 : ∀ x, x < 16 → x ≠ 1 → g x = pz_entry k i t x := hg
      rw [← pz_sec_congr hg2, ← pz_sec_congr hg2] at E
      have hf2 : ∀ q, q ≠ 50 → q ≠ 46 → aw_u f 46 i (nI k) q = h q := fun q q1 q2 => by rw [aw_u_ne q2, hf q q1]
      have hsec2 : secz g (aw_u f 46 i (nI k)) := fun x hx => ⟨aw_rd (by omega) (hsec x hx).1, (hsec x hx).2⟩
      refine ax_iload_n (q := 33) B d_R_writeEntry_32 rfl rfl rfl ?_
      refine ax_aload_n (q := 34) B d_R_writeEntry_33 rfl rfl rfl ?_
      refine ax_getP (q := 37) B fl_R_16 rfl d_R_writeEntry_34 (by assumption) (by assumption) rfl ?_
      refine ax_iload_n (q := 38) B d_R_writeEntry_37 rfl rfl rfl ?_
      refine ax_ialdN (q := 39) B d_R_writeEntry_38 (by assumption) rfl (by omega) (by omega) (by first | assumption | rfl) rfl ?_
      refine ax_icmpN_ge (q := 68) (q2 := 42) B (by omega) (by omega) d_R_writeEntry_39 rfl rfl (fun h39 => ?_) (fun h39 => ?_)
      · refine ax_aload_n (q := 69) B d_R_writeEntry_68 rfl rfl rfl ?_
        refine ax_getP (q := 72) B fl_R_26 rfl d_R_writeEntry_69 (by assumption) (by assumption) rfl ?_
        refine ax_iload_n (q := 73) B d_R_writeEntry_72 rfl rfl rfl ?_
        refine ax_aload_n (q := 74) B d_R_writeEntry_73 rfl rfl rfl ?_
        refine ax_getN (q := 77) B fl_R_66 rfl d_R_writeEntry_74 (by assumption) (by first | assumption | rfl) rfl ?_
        refine ax_iastN (q := 78) B d_R_writeEntry_77 (by assumption) rfl (by omega) (by omega) rfl ?_
        refine ax_aload_n (q := 79) B d_R_writeEntry_78 rfl rfl rfl ?_
        refine ax_gV0 (q := 82) B cv_R_117 d_R_writeEntry_79 (by assumption) (Nat.le_of_ble_eq_true rfl) (by decide) (r_writeSector hG (hw.kept (hf2 41 (by omega) (by omega))) (hm.kept (hf2 40 (by omega) (by omega))) hsec2 hk (by rw [pz_sec_congr hg2]; exact iz_sec hi (by show (2 : Nat) ≠ 3; omega))) rfl (fun r h3 hh3 => ?_)
        obtain ⟨rfl, hw3, hm3, hb3, hf3, hf4⟩ := hh3
        refine ax_zret B E (by first | exact bI_or _ | decide) d_R_writeEntry_82 ?_
        exact ⟨_, rfl, rfl, hw3, hm3, hb3, fun hz => ⟨fun q q1 q2 => by rw [hf3 hz q (by omega), hf2 q (by omega) (by omega)], by rw [hf3 hz 46 (by omega), aw_u_eq, hf 46 (by omega)]⟩, fun q hq => by rw [hf4 q hq, hf2 q (by omega) (by omega)]⟩
      · omega
    | succ m ih =>
      intro j f g hj hsec hg hf
      have f2 : f 43 i = nI (pz_ct t i) := by rw [hf 43 (by omega)]; exact b2
      obtain ⟨es, ls⟩ := hit j (by omega)
      have f4 : f 44 (10 * i + j) = nI (pz_it t i j) := by rw [hf 44 (by omega)]; exact es
      refine ax_iload_n (q := 33) B d_R_writeEntry_32 rfl rfl rfl ?_
      refine ax_aload_n (q := 34) B d_R_writeEntry_33 rfl rfl rfl ?_
      refine ax_getP (q := 37) B fl_R_16 rfl d_R_writeEntry_34 (by assumption) (by assumption) rfl ?_
      refine ax_iload_n (q := 38) B d_R_writeEntry_37 rfl rfl rfl ?_
      refine ax_ialdN (q := 39) B d_R_writeEntry_38 (by assumption) rfl (by omega) (by omega) (by first | assumption | rfl) rfl ?_
      refine ax_icmpN_ge (q := 68) (q2 := 42) B (by omega) (by omega) d_R_writeEntry_39 rfl rfl (fun h39 => ?_) (fun h39 => ?_)
      · omega
      · refine ax_aload_n (q := 43) B d_R_writeEntry_42 rfl rfl rfl ?_
        refine ax_getP (q := 46) B fl_R_38 rfl d_R_writeEntry_43 (by assumption) (by assumption) rfl ?_
        refine ax_bipush (v := nI 6) (q := 48) B d_R_writeEntry_46 cb_6 rfl ?_
        refine ax_iload_n (q := 49) B d_R_writeEntry_48 rfl rfl rfl ?_
        first | refine ax_iaddN (q := 50) B d_R_writeEntry_49 rfl ?_ | refine ax_iadd (q := 50) B d_R_writeEntry_49 rfl ?_
        refine ax_aload_n (q := 51) B d_R_writeEntry_50 rfl rfl rfl ?_
        refine ax_getP (q := 54) B fl_R_19 rfl d_R_writeEntry_51 (by assumption) (by assumption) rfl ?_
        refine ax_bipush (v := nI 10) (q := 56) B d_R_writeEntry_54 cb_10 rfl ?_
        refine ax_iload_n (q := 57) B d_R_writeEntry_56 rfl rfl rfl ?_
        first | refine ax_imulN (q := 58) B d_R_writeEntry_57 rfl ?_ | refine ax_imul (q := 58) B d_R_writeEntry_57 rfl ?_
        refine ax_iload_n (q := 59) B d_R_writeEntry_58 rfl rfl rfl ?_
        first | refine ax_iaddN (q := 60) B d_R_writeEntry_59 rfl ?_ | refine ax_iadd (q := 60) B d_R_writeEntry_59 rfl ?_
        refine ax_ialdN (q := 61) B d_R_writeEntry_60 (by assumption) rfl (by omega) (by omega) (by first | assumption | rfl) rfl ?_
        refine ax_iastN (q := 62) B d_R_writeEntry_61 (by assumption) rfl (by omega) (by omega) rfl ?_
        refine ax_iincN (j := 1) (q := 65) B d_R_writeEntry_62 rfl ii_1 (by decide) rfl ?_
        refine ax_goto (q := 32) B d_R_writeEntry_65 rfl ?_
        refine ih (j + 1) _ _ (by omega) (hsec.put (i := 6 + j) ls) (fun x hx h1 => ?_) (fun q hq => (aw_u_ne hq).trans (hf q hq))
        by_cases hxj : x = 6 + j
        · subst hxj
          rw [pz_up_s]
          unfold pz_entJ
          rw [if_neg (by omega), if_neg (by omega), if_neg (by omega), if_neg (by omega), if_neg (by omega), if_pos (by omega), show 6 + j - 6 = j by omega]
        · rw [pz_up_n hxj, hg x hx h1]
          unfold pz_entJ
          by_cases hx6 : 6 ≤ x ∧ x < 6 + j
          · rw [if_pos hx6, if_pos (show 6 ≤ x ∧ x < 6 + (j + 1) by omega)]
          · rw [if_neg hx6, if_neg (show ¬ (6 ≤ x ∧ x < 6 + (j + 1)) by omega)]
  refine ax_aload_n (q := 1) B d_R_writeEntry_0 rfl rfl rfl ?_
  refine ax_iconst (v := nI 2) (q := 2) B d_R_writeEntry_1 ci_2 rfl ?_
  refine ax_iload_n (q := 3) B d_R_writeEntry_2 rfl rfl rfl ?_
  refine ax_pV2 (q := 6) B cv_R_114 d_R_writeEntry_3 (by assumption) (Nat.le_of_ble_eq_true rfl) (by decide) (r_clearSector hG e2 (by omega) (by omega) (by omega)) rfl (fun h1 hh1 => ?_)
  have c1 : h1 42 i = nI (pz_kd t i) := by rw [hh1.2 42 (by omega)]; exact b1
  have c2 : aw_u h1 50 4 (nI (pz_kd t i)) 43 i = nI (pz_ct t i) := aw_rd (by omega) (by rw [hh1.2 43 (by omega)]; exact b2)
  refine ax_aload_n (q := 7) B d_R_writeEntry_6 rfl rfl rfl ?_
  refine ax_getP (q := 10) B fl_R_38 rfl d_R_writeEntry_7 (by assumption) (by assumption) rfl ?_
  refine ax_iconst (v := nI 4) (q := 11) B d_R_writeEntry_10 ci_4 rfl ?_
  refine ax_aload_n (q := 12) B d_R_writeEntry_11 rfl rfl rfl ?_
  refine ax_getP (q := 15) B fl_R_13 rfl d_R_writeEntry_12 (by assumption) (by assumption) rfl ?_
  refine ax_iload_n (q := 16) B d_R_writeEntry_15 rfl rfl rfl ?_
  refine ax_ialdN (q := 17) B d_R_writeEntry_16 (by assumption) rfl (by omega) (by omega) (by first | assumption | rfl) rfl ?_
  refine ax_iastN (q := 18) B d_R_writeEntry_17 (by assumption) rfl (by omega) (by omega) rfl ?_
  refine ax_aload_n (q := 19) B d_R_writeEntry_18 rfl rfl rfl ?_
  refine ax_getP (q := 22) B fl_R_38 rfl d_R_writeEntry_19 (by assumption) (by assumption) rfl ?_
  refine ax_iconst (v := nI 5) (q := 23) B d_R_writeEntry_22 ci_5 rfl ?_
  refine ax_aload_n (q := 24) B d_R_writeEntry_23 rfl rfl rfl ?_
  refine ax_getP (q := 27) B fl_R_16 rfl d_R_writeEntry_24 (by assumption) (by assumption) rfl ?_
  refine ax_iload_n (q := 28) B d_R_writeEntry_27 rfl rfl rfl ?_
  refine ax_ialdN (q := 29) B d_R_writeEntry_28 (by assumption) rfl (by omega) (by omega) c2 rfl ?_
  refine ax_iastN (q := 30) B d_R_writeEntry_29 (by assumption) rfl (by omega) (by omega) rfl ?_
  refine ax_iconst (v := nI 0) (q := 31) B d_R_writeEntry_30 ci_0 rfl ?_
  refine ax_istore_n (q := 32) B d_R_writeEntry_31 rfl (by decide) rfl ?_
  refine loop (pz_ct t i) 0 _ _ (by omega) ((hh1.1.put (i := 4) lk).put (i := 5) (show pz_ct t i < 65536 by omega)) (fun x hx h1x => ?_) (fun q hq => by rw [aw_u_ne hq, aw_u_ne hq]; exact hh1.2 q hq)
  unfold pz_entJ pz_up pz_hdr
  by_cases x4 : x = 4
  · subst x4; rfl
  · by_cases x5 : x = 5
    · subst x5; rfl
    · rw [if_neg x5, if_neg x4, if_neg x4, if_neg x5, if_neg (show ¬ (6 ≤ x ∧ x < 6 + 0) by omega)]
