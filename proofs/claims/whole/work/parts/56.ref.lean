/-- the reference's medium -/
def rm_ (G : aw_G) (k sp : Nat) (h : aw_H) : Prop := h 40 1 = nI (aw_n G) ∧ h 40 2 = nI k ∧ k ≤ aw_n G ∧ sp ≤ 1001 ∧ h 40 3 = bI (decide (sp ≠ 0)) ∧ (sp ≠ 0 → h 40 4 = nI (sp - 1))
theorem rm_.kept {G : aw_G} {k sp : Nat} {h h' : aw_H} (hm : rm_ G k sp h) (e : h' 40 = h 40) : rm_ G k sp h' := by
  unfold rm_
  rw [e]
  exact hm
theorem rw_.kept {w : Nat → Nat} {h h' : aw_H} (hm : rw_ w h) (e : h' 41 = h 41) : rw_ w h' := by
  unfold rw_
  rw [e]
  exact hm
theorem rw_sec {w f : Nat → Nat} {h h' : aw_H} {k : Nat} {b : Bool} (hw : rw_ w h) (hf : ∀ i, i < 16 → f i < 65536) (h1 : ∀ x, x < 2048 → (x < 16 * k ∨ 16 * k + 16 ≤ x) → h' 41 x = h 41 x) (h2 : ∀ i, i < 16 → i ≠ 1 → h' 41 (16 * k + i) = nI (f i)) (h3 : h' 41 (16 * k + 1) = nI (if b = true then pz_chkN f 16 ^^^ 1 else pz_chkN f 16)) : rw_ (pz_sec w k f b) h' := by
  intro x hx
  by_cases hx1 : x = 16 * k + 1
  · subst hx1
    rw [h3, pz_sec_1]
    refine ⟨rfl, ?_⟩
    have hc := pz_chkN_lt f 16
    generalize pz_chkN f 16 = c at hc
    split
    · exact pz_xor_lt (j := 16) (by omega) (by omega)
    · exact hc
  · by_cases hx2 : x < 16 * k ∨ 16 * k + 16 ≤ x
    · have e : pz_sec w k f b x = w x := by
        rcases hx2 with h4 | h4
        · exact pz_sec_old h4
        · exact pz_sec_far h4
      rw [e, h1 x hx hx2]
      exact hw x hx
    · obtain ⟨i, hi⟩ : ∃ i, x = 16 * k + i := ⟨x - 16 * k, by omega⟩
      subst hi
      rw [pz_sec_new (by omega) (by omega), h2 i (by omega) (by omega)]
      exact ⟨rfl, hf i (by omega)⟩
set_option maxRecDepth 100000 in
theorem r_writeSector {l : Launch} {G : aw_G} (hG : gr G) {h : aw_H} {k sp : Nat} {w f : Nat → Nat} (hw : rw_ w h) (hm : rm_ G k sp h) (hs : secz f h) (hk : k < aw_n G) (hi : iz (k + 1) (pz_sec w k f true)) :
    aw_F l G 6 Y_R_writeSector [.inl (some 40)] h (fun v h' => v = .inr (bI (decide (sp ≠ 1))) ∧ rw_ (pz_sec w k f (sp == 1)) h' ∧ rm_ G (k + 1) (sp - 1) h' ∧ (sp = 1 → rt (pz_back (pz_sec w k f true) (k + 1)) h') ∧ (sp ≠ 1 → ∀ q, 42 ≤ q → h' q = h q) ∧ ∀ q, q < 40 → h' q = h q) := by
  refine aw_met hG.1.1 (by decide) (Nat.le_of_ble_eq_true rfl) (fun M hM B E => ?_)
  show aw_X M G 3 0 [some (.inl (some 40)), none, none] [] h
  have i40 := hG.i40
  have a41 := hG.a41
  have a50 := hG.a50
  have r0 : aw_rM 40 0 = some 41 := rfl
  have r13 : aw_rM 40 13 = some 50 := rfl
  have n2 := hG.1.2.2.2
  obtain ⟨e1, e2, -, hsp, e3, e4⟩ := hm
  have hfl : ∀ i, i < 16 → f i < 65536 := fun i hi => (hs i hi).2
  -- the end: torn or not
  have fin : ∀ g : aw_H, rw_ (pz_sec w k f (sp == 1)) g → g 40 1 = nI (aw_n G) → g 40 2 = nI (k + 1) → g 40 3 = bI (decide (sp ≠ 0)) → (sp ≠ 0 → g 40 4 = nI (sp - 1) - nI 1) → (∀ q, q ≠ 40 → q ≠ 41 → g q = h q) → ∀ y : Nat, y = (if sp = 1 then 1 else 0) → aw_X M G 3 114 [some (.inl (some 40)), some (.inr (nI (16 * k))), some (.inr (nI y))] [] g := by
    intro g gw g1 g2 g3 g4 g5 y hy
    by_cases hsp1 : sp = 1
    · subst hsp1
      rw [if_pos rfl] at hy
      subst hy
      have gw : rw_ (pz_sec w k f true) g := gw
      refine ax_iload_n (q := 115) B d_R_writeSector_114 rfl rfl rfl ?_
      refine ax_ifN_eq (q := 127) (q2 := 118) B (by omega) d_R_writeSector_115 rfl rfl (fun z => by omega) (fun _ => ?_)
      refine ax_aload_n (q := 119) B d_R_writeSector_118 rfl rfl rfl ?_
      refine ax_pV0 (q := 122) B cv_R_79 d_R_writeSector_119 (by assumption) (Nat.le_of_ble_eq_true rfl) (by decide) (r_readBack hG gw (by omega) g2 hi) rfl (fun g' hg' => ?_)
      refine ax_aload_n (q := 123) B d_R_writeSector_122 rfl rfl rfl ?_
      refine ax_iconst (v := nI 0) (q := 124) B d_R_writeSector_123 ci_0 rfl ?_
      refine ax_putB (q := 127) B fp_R_72 (by first | exact bI_or _ | decide) d_R_writeSector_124 (by assumption) rfl ?_
      have fr : ∀ q, q < 40 → aw_u g' 40 3 (nI 0) q = h q := fun q hq => by rw [aw_u_ne (by omega), hg'.2 q (by omega), g5 q (by omega) (by omega)]
      have mt : rm_ G (k + 1) 0 (aw_u g' 40 3 (nI 0)) := ⟨aw_rd (by omega) (by rw [hg'.2 40 (by omega)]; exact g1), aw_rd (by omega) (by rw [hg'.2 40 (by omega)]; exact g2), by omega, by omega, aw_rs, fun z => absurd rfl z⟩
      have wt : rw_ (pz_sec w k f true) (aw_u g' 40 3 (nI 0)) := gw.kept (by rw [aw_u_ne (by omega), hg'.2 41 (by omega)])
      have tt : rt (pz_back (pz_sec w k f true) (k + 1)) (aw_u g' 40 3 (nI 0)) := hg'.1.kept (fun q q1 q2 => aw_u_ne (by omega))
      refine ax_iload_n (q := 128) B d_R_writeSector_127 rfl rfl rfl ?_
      refine ax_ifN_ne (q := 135) (q2 := 131) B (by omega) d_R_writeSector_128 rfl rfl (fun h128 => ?_) (fun h128 => ?_)
      · refine ax_iconst (v := nI 0) (q := 136) B d_R_writeSector_135 ci_0 rfl ?_
        refine ax_zret B E (by first | exact bI_or _ | decide) d_R_writeSector_136 ?_
        exact ⟨_, rfl, rfl, wt, mt, fun _ => tt, fun z => absurd rfl z, fr⟩
      · omega
    · rw [if_neg hsp1] at hy
      subst hy
      have mt : rm_ G (k + 1) (sp - 1) g := by
        refine ⟨g1, g2, by omega, by omega, ?_, fun z => ?_⟩
        · rw [g3]
          by_cases h0 : sp = 0
          · subst h0; rfl
          · rw [decide_eq_true h0, decide_eq_true (show sp - 1 ≠ 0 by omega)]
        · rw [g4 (by omega), pk_sub (by omega)]
      refine ax_iload_n (q := 115) B d_R_writeSector_114 rfl rfl rfl ?_
      refine ax_ifN_eq (q := 127) (q2 := 118) B (by omega) d_R_writeSector_115 rfl rfl (fun _ => ?_) (fun z => by omega)
      refine ax_iload_n (q := 128) B d_R_writeSector_127 rfl rfl rfl ?_
      refine ax_ifN_ne (q := 135) (q2 := 131) B (by omega) d_R_writeSector_128 rfl rfl (fun h128 => ?_) (fun h128 => ?_)
      · omega
      · refine ax_iconst (v := nI 1) (q := 132) B d_R_writeSector_131 ci_1 rfl ?_
        refine ax_goto (q := 136) B d_R_writeSector_132 rfl ?_
        refine ax_zret B E (by first | exact bI_or _ | decide) d_R_writeSector_136 ?_
        exact ⟨_, rfl, by rw [decide_eq_true hsp1]; rfl, gw, mt, fun z => absurd z hsp1, fun _ q hq => g5 q (by omega) (by omega), fun q hq => g5 q (by omega) (by omega)⟩
  -- until, written
  have cnt : ∀ g : aw_H, rw_ (pz_sec w k f (sp == 1)) g → (∀ q, q ≠ 41 → g q = h q) → ∀ y : Nat, y = (if sp = 1 then 1 else 0) → aw_X M G 3 94 [some (.inl (some 40)), some (.inr (nI (16 * k))), some (.inr (nI y))] [] g := by
    intro g gw g5 y hy
    have c2 : g 40 2 = nI k := by rw [g5 40 (by omega)]; exact e2
    have c2' : ∀ v, aw_u g 40 4 v 40 2 = nI k := fun v => aw_rd (by omega) c2
    refine ax_aload_n (q := 95) B d_R_writeSector_94 rfl rfl rfl ?_
    refine ax_dup (q := 96) B d_R_writeSector_95 rfl ?_
    refine ax_getN (q := 99) B fl_R_76 rfl d_R_writeSector_96 (by assumption) (by first | assumption | rfl) rfl ?_
    refine ax_iconst (v := nI 1) (q := 100) B d_R_writeSector_99 ci_1 rfl ?_
    refine ax_isub (q := 101) B d_R_writeSector_100 rfl ?_
    refine ax_putN (q := 104) B fp_R_76 d_R_writeSector_101 (by assumption) rfl ?_
    refine ax_aload_n (q := 105) B d_R_writeSector_104 rfl rfl rfl ?_
    refine ax_dup (q := 106) B d_R_writeSector_105 rfl ?_
    refine ax_getN (x := nI k) (q := 109) B fl_R_66 rfl d_R_writeSector_106 (by assumption) (c2' _) rfl ?_
    refine ax_iconst (v := nI 1) (q := 110) B d_R_writeSector_109 ci_1 rfl ?_
    first | refine ax_iaddN (q := 111) B d_R_writeSector_110 rfl ?_ | refine ax_iadd (q := 111) B d_R_writeSector_110 rfl ?_
    refine ax_putN (q := 114) B fp_R_66 d_R_writeSector_111 (by assumption) rfl ?_
    refine fin _ (gw.kept (by rw [aw_u_ne (by omega), aw_u_ne (by omega)])) (aw_rd (by omega) (aw_rd (by omega) (by rw [g5 40 (by omega)]; exact e1))) aw_rs (aw_rd (by omega) (aw_rd (by omega) (by rw [g5 40 (by omega)]; exact e3))) (fun z => aw_rd (by omega) (aw_rs.trans (by rw [g5 40 (by omega), e4 z]))) (fun q q1 q2 => by rw [aw_u_ne q1, aw_u_ne q1]; exact g5 q q2) y hy
  have loop : ∀ m j (g : aw_H), j + m = 16 → (∀ i, i < j → g 41 (16 * k + i) = nI (f i)) → (∀ x, (x < 16 * k ∨ 16 * k + 16 ≤ x) → g 41 x = h 41 x) → (∀ q, q ≠ 41 → g q = h q) → aw_X M G 3 10 [some (.inl (some 40)), some (.inr (nI (16 * k))), some (.inr (nI j))] [] g := by
    intro m
    induction m with
    | zero =>
      intro j g hj g1 g2 g5
      have hj : j = 16 := by omega
      subst hj
      have c2 : g 40 2 = nI k := by rw [g5 40 (by omega)]; exact e2
      have hC := r_checkOf (l := M.2.1) hG (h := g) (p := k) (by omega) (f := f) (fun i hi => ⟨g1 i hi, by have := hfl i hi; omega⟩)
      have hxl := pz_chkN_lt f 16
      have secF : ∀ b : Bool, ∀ g' : aw_H, (∀ y, y ≠ 16 * k + 1 → g' 41 y = g 41 y) → g' 41 (16 * k + 1) = nI (if b = true then pz_chkN f 16 ^^^ 1 else pz_chkN f 16) → rw_ (pz_sec w k f b) g' := fun b g' q1 q2 => rw_sec hw hfl (fun x hx hx2 => by rw [q1 x (by omega)]; exact g2 x hx2) (fun i hi h1 => by rw [q1 _ (by omega)]; exact g1 i hi) q2
      generalize pz_chkN f 16 = c at hC hxl secF
      have c3 : ∀ v y, aw_u g 41 y v 40 3 = bI (decide (sp ≠ 0)) := fun v y => aw_rd (by omega) (by rw [g5 40 (by omega)]; exact e3)
      have c4 : ∀ v y, sp ≠ 0 → aw_u g 41 y v 40 4 = nI (sp - 1) := fun v y z => aw_rd (by omega) (by rw [g5 40 (by omega)]; exact e4 z)
      have fl : ∀ y : Nat, y = (if sp = 1 then 1 else 0) → aw_X M G 3 71 [some (.inl (some 40)), some (.inr (nI (16 * k))), some (.inr (nI 16))] [.inr (nI y)] (aw_u g 41 (16 * k + 1) (nI c)) := by
        intro y hy
        by_cases hsp1 : sp = 1
        · have hy1 : y = 1 := by rw [hy, if_pos hsp1]
          have hb : (sp == 1) = true := by rw [hsp1]; rfl
          rw [hb] at cnt
          have er : aw_u g 41 (16 * k + 1) (nI c) 41 (16 * k + 1) = nI c := aw_rs
          refine ax_istore_n (q := 72) B d_R_writeSector_71 rfl (by decide) rfl ?_
          refine ax_iload_n (q := 73) B d_R_writeSector_72 rfl rfl rfl ?_
          refine ax_ifN_eq (q := 94) (q2 := 76) B (by omega) d_R_writeSector_73 rfl rfl (fun h73 => ?_) (fun h73 => ?_)
          · first | (exfalso; omega) | exact cnt _ (secF true _ (fun z hz => aw_rd (by omega) (aw_rd (by omega) rfl)) aw_rs) (fun q hq => by rw [aw_u_ne hq, aw_u_ne hq]; exact g5 q hq) y hy
          · refine ax_aload_n (q := 77) B d_R_writeSector_76 rfl rfl rfl ?_
            refine ax_getP (q := 80) B fl_R_7 rfl d_R_writeSector_77 (by assumption) (by assumption) rfl ?_
            refine ax_iload_n (q := 81) B d_R_writeSector_80 rfl rfl rfl ?_
            refine ax_iconst (v := nI 1) (q := 82) B d_R_writeSector_81 ci_1 rfl ?_
            first | refine ax_iaddN (q := 83) B d_R_writeSector_82 rfl ?_ | refine ax_iadd (q := 83) B d_R_writeSector_82 rfl ?_
            refine ax_aload_n (q := 84) B d_R_writeSector_83 rfl rfl rfl ?_
            refine ax_getP (q := 87) B fl_R_7 rfl d_R_writeSector_84 (by assumption) (by assumption) rfl ?_
            refine ax_iload_n (q := 88) B d_R_writeSector_87 rfl rfl rfl ?_
            refine ax_iconst (v := nI 1) (q := 89) B d_R_writeSector_88 ci_1 rfl ?_
            first | refine ax_iaddN (q := 90) B d_R_writeSector_89 rfl ?_ | refine ax_iadd (q := 90) B d_R_writeSector_89 rfl ?_
            refine ax_ialdN (q := 91) B d_R_writeSector_90 (by assumption) rfl (by omega) (by omega) er rfl ?_
            refine ax_iconst (v := nI 1) (q := 92) B d_R_writeSector_91 ci_1 rfl ?_
            first | refine ax_ixorN (q := 93) B d_R_writeSector_92 rfl ?_ | refine ax_ixor (q := 93) B d_R_writeSector_92 rfl ?_
            refine ax_iastN (q := 94) B d_R_writeSector_93 (by assumption) rfl (by omega) (by omega) rfl ?_
            first | (exfalso; omega) | exact cnt _ (secF true _ (fun z hz => aw_rd (by omega) (aw_rd (by omega) rfl)) aw_rs) (fun q hq => by rw [aw_u_ne hq, aw_u_ne hq]; exact g5 q hq) y hy
        · have hy1 : y = 0 := by rw [hy, if_neg hsp1]
          have hb : (sp == 1) = false := pz_beq_ne hsp1
          rw [hb] at cnt
          refine ax_istore_n (q := 72) B d_R_writeSector_71 rfl (by decide) rfl ?_
          refine ax_iload_n (q := 73) B d_R_writeSector_72 rfl rfl rfl ?_
          refine ax_ifN_eq (q := 94) (q2 := 76) B (by omega) d_R_writeSector_73 rfl rfl (fun h73 => ?_) (fun h73 => ?_)
          · exact cnt _ (secF false _ (fun z hz => aw_rd (by omega) rfl) aw_rs) (fun q hq => by rw [aw_u_ne hq]; exact g5 q hq) y hy
          · omega
      refine ax_iload_n (q := 11) B d_R_writeSector_10 rfl rfl rfl ?_
      refine ax_bipush (v := nI 16) (q := 13) B d_R_writeSector_11 cb_16 rfl ?_
      refine ax_icmpN_ge (q := 36) (q2 := 16) B (by omega) (by omega) d_R_writeSector_13 rfl rfl (fun h13 => ?_) (fun h13 => ?_)
      · refine ax_aload_n (q := 37) B d_R_writeSector_36 rfl rfl rfl ?_
        refine ax_getP (q := 40) B fl_R_7 rfl d_R_writeSector_37 (by assumption) (by assumption) rfl ?_
        refine ax_iload_n (q := 41) B d_R_writeSector_40 rfl rfl rfl ?_
        refine ax_iconst (v := nI 1) (q := 42) B d_R_writeSector_41 ci_1 rfl ?_
        first | refine ax_iaddN (q := 43) B d_R_writeSector_42 rfl ?_ | refine ax_iadd (q := 43) B d_R_writeSector_42 rfl ?_
        refine ax_aload_n (q := 44) B d_R_writeSector_43 rfl rfl rfl ?_
        refine ax_aload_n (q := 45) B d_R_writeSector_44 rfl rfl rfl ?_
        refine ax_getN (q := 48) B fl_R_66 rfl d_R_writeSector_45 (by assumption) (by first | assumption | rfl) rfl ?_
        refine ax_qV1 (q := 51) B cv_R_58 d_R_writeSector_48 (by assumption) (Nat.le_of_ble_eq_true rfl) (by decide) hC rfl ?_
        refine ax_iastN (q := 52) B d_R_writeSector_51 (by assumption) rfl (by omega) (by omega) rfl ?_
        refine ax_aload_n (q := 53) B d_R_writeSector_52 rfl rfl rfl ?_
        refine ax_getN (q := 56) B fl_R_72 rfl d_R_writeSector_53 (by assumption) (c3 _ _) rfl ?_
        refine ax_ifZ_eq (q := 70) (q2 := 59) B d_R_writeSector_56 rfl rfl (fun h56 => ?_) (fun h56 => ?_)
        · refine ax_iconst (v := nI 0) (q := 71) B d_R_writeSector_70 ci_0 rfl ?_
          first | exact fl 0 (by have := of_decide_eq_false h56; rw [if_neg (by omega)]) | exact fl 0 (by rw [if_neg (by omega)]) | exact fl 1 (by have := of_decide_eq_true h56; rw [if_pos (by omega)])
        · refine ax_aload_n (q := 60) B d_R_writeSector_59 rfl rfl rfl ?_
          refine ax_getN (q := 63) B fl_R_76 rfl d_R_writeSector_60 (by assumption) (c4 _ _ (of_decide_eq_true h56)) rfl ?_
          refine ax_ifN_ne (q := 70) (q2 := 66) B (by omega) d_R_writeSector_63 rfl rfl (fun h63 => ?_) (fun h63 => ?_)
          · refine ax_iconst (v := nI 0) (q := 71) B d_R_writeSector_70 ci_0 rfl ?_
            first | exact fl 0 (by have := of_decide_eq_false h56; rw [if_neg (by omega)]) | exact fl 0 (by rw [if_neg (by omega)]) | exact fl 1 (by have := of_decide_eq_true h56; rw [if_pos (by omega)])
          · refine ax_iconst (v := nI 1) (q := 67) B d_R_writeSector_66 ci_1 rfl ?_
            refine ax_goto (q := 71) B d_R_writeSector_67 rfl ?_
            first | exact fl 0 (by have := of_decide_eq_false h56; rw [if_neg (by omega)]) | exact fl 0 (by rw [if_neg (by omega)]) | exact fl 1 (by have := of_decide_eq_true h56; rw [if_pos (by omega)])
      · omega
    | succ m ih =>
      intro j g hj g1 g2 g5
      have e5 : g 50 j = nI (f j) := by rw [g5 50 (by omega)]; exact (hs j (by omega)).1
      refine ax_iload_n (q := 11) B d_R_writeSector_10 rfl rfl rfl ?_
      refine ax_bipush (v := nI 16) (q := 13) B d_R_writeSector_11 cb_16 rfl ?_
      refine ax_icmpN_ge (q := 36) (q2 := 16) B (by omega) (by omega) d_R_writeSector_13 rfl rfl (fun h13 => ?_) (fun h13 => ?_)
      · omega
      · refine ax_aload_n (q := 17) B d_R_writeSector_16 rfl rfl rfl ?_
        refine ax_getP (q := 20) B fl_R_7 rfl d_R_writeSector_17 (by assumption) (by assumption) rfl ?_
        refine ax_iload_n (q := 21) B d_R_writeSector_20 rfl rfl rfl ?_
        refine ax_iload_n (q := 22) B d_R_writeSector_21 rfl rfl rfl ?_
        first | refine ax_iaddN (q := 23) B d_R_writeSector_22 rfl ?_ | refine ax_iadd (q := 23) B d_R_writeSector_22 rfl ?_
        refine ax_aload_n (q := 24) B d_R_writeSector_23 rfl rfl rfl ?_
        refine ax_getP (q := 27) B fl_R_38 rfl d_R_writeSector_24 (by assumption) (by assumption) rfl ?_
        refine ax_iload_n (q := 28) B d_R_writeSector_27 rfl rfl rfl ?_
        refine ax_ialdN (q := 29) B d_R_writeSector_28 (by assumption) rfl (by omega) (by omega) (by first | assumption | rfl) rfl ?_
        refine ax_iastN (q := 30) B d_R_writeSector_29 (by assumption) rfl (by omega) (by omega) rfl ?_
        refine ax_iincN (j := 1) (q := 33) B d_R_writeSector_30 rfl ii_1 (by decide) rfl ?_
        refine ax_goto (q := 10) B d_R_writeSector_33 rfl ?_
        refine ih (j + 1) _ (by omega) (fun i hi => ?_) (fun x hx => aw_rd (by omega) (g2 x hx)) (fun q hq => (aw_u_ne hq).trans (g5 q hq))
        by_cases hij : i = j
        · subst hij; exact aw_rs
        · exact aw_rd (by omega) (g1 i (by omega))
  refine ax_bipush (v := nI 16) (q := 2) B d_R_writeSector_0 cb_16 rfl ?_
  refine ax_aload_n (q := 3) B d_R_writeSector_2 rfl rfl rfl ?_
  refine ax_getN (q := 6) B fl_R_66 rfl d_R_writeSector_3 (by assumption) (by first | assumption | rfl) rfl ?_
  first | refine ax_imulN (q := 7) B d_R_writeSector_6 rfl ?_ | refine ax_imul (q := 7) B d_R_writeSector_6 rfl ?_
  refine ax_istore_n (q := 8) B d_R_writeSector_7 rfl (by decide) rfl ?_
  refine ax_iconst (v := nI 0) (q := 9) B d_R_writeSector_8 ci_0 rfl ?_
  refine ax_istore_n (q := 10) B d_R_writeSector_9 rfl (by decide) rfl ?_
  exact loop 16 0 h rfl (fun i hi => absurd hi (by omega)) (fun x _ => rfl) (fun q _ => rfl)
