theorem take_T {t : pz_T} {h h' : aw_H} {d j : Nat} (hT : hz_T 4 t h) (hd : d < 8) (hj : j < pz_ct t d) (hh : h' (4 + 2 + 2 * d) 1 = h (4 + 2 + 2 * d) 1 ∧ h' (4 + 2 + 2 * d) 2 = nI (pz_ct t d - 1) ∧ h' (4 + 2 + 2 * d) 3 = h (4 + 2 + 2 * d) 3 ∧ h' (4 + 2 + 2 * d) 4 = nI 1 ∧ (∀ s, s < pz_ct t d - 1 → h' (4 + 2 + 2 * d + 1) s = if s < j then h (4 + 2 + 2 * d + 1) s else h (4 + 2 + 2 * d + 1) (s + 1)) ∧ ∀ q, q ≠ 4 + 2 + 2 * d → q ≠ 4 + 2 + 2 * d + 1 → h' q = h q) : hz_T 4 (pz_take t d j) h' := fun i hi => by
  obtain ⟨b1, b2, b3, b4, b5, b6⟩ := hh
  by_cases hid : i = d
  · subst hid
    obtain ⟨a1, a2, a3, a4, a5, a6, a7⟩ := hT i hi
    have e2 : pz_ct (pz_take t i j) i = pz_ct t i - 1 := pz_up_s
    have e3 : pz_ch (pz_take t i j) i = true := pz_up_s
    unfold hz_N
    rw [e2, e3]
    refine ⟨b1.trans a1, b2, b3.trans a3, b4, a5, by omega, fun s hs => ?_⟩
    have e4 : pz_it (pz_take t i j) i s = if s < j then pz_it t i s else pz_it t i (s + 1) := by
      show pz_up (pz_it t) i (fun s => if s < j then pz_it t i s else pz_it t i (s + 1)) i s = _
      rw [pz_up_s]
    rw [e4, b5 s hs]
    by_cases hsj : s < j
    · rw [if_pos hsj, if_pos hsj]; exact a7 s (by omega)
    · rw [if_neg hsj, if_neg hsj]; exact a7 (s + 1) (by omega)
  · refine ((hT i hi).ext (t' := pz_take t d j) rfl (pz_up_n hid) (pz_up_n hid) rfl (fun s hs => ?_)).kept (b6 _ (by omega) (by omega)) (b6 _ (by omega) (by omega))
    show pz_up (pz_it t) d _ i s = _
    rw [pz_up_n hid]
theorem nI_upd {a u g c : Nat} (h : c + g = a + u) : nI a + (nI u - nI g) = nI c := by
  rw [Int32.sub_eq_add_neg, ← Int32.add_assoc, nI_add, ← Int32.sub_eq_add_neg, pk_sub (by omega)]
  congr 1
  omega
theorem pz_nd_m1 {t : pz_T} {P : Nat → Bool} : pz_nd t P (-1) = none := by
  unfold pz_nd
  exact if_neg (fun z => by rw [pz_no_8 (pz_small_1 (by decide))] at z; omega)
theorem p_remove {l : Launch} {G : aw_G} (hG : gz G) {h : aw_H} {S : pz_S} (hS : cz G S h) (hI : pz_inv S) (dir name : Int32) : aw_F l G 3 Y_S_remove [.inl (some 0), .inr dir, .inr name] h (fun v h' => v = .inr (pz_remove S dir name).1 ∧ cz G (pz_remove S dir name).2 h' ∧ ∀ q, 40 ≤ q → h' q = h q) := by
  obtain ⟨n, k, w, sp, t⟩ := S
  obtain ⟨-, -, -, -, -, -, hwf, -, -⟩ := hI
  have hS' := hS
  obtain ⟨hn, hm, hT⟩ := hS
  have hn : n = aw_n G := hn
  have hm : mz G k sp w h := hm
  have hT : hz_T 4 t h := hT
  have hwf : pz_wf k t := hwf
  refine aw_met hG.1 (by decide) (Nat.le_of_ble_eq_true rfl) (fun M hM B E => ?_)
  show aw_X M G 8 0 [some (.inl (some 0)), some (.inr dir), some (.inr name), none, none, none, none, none] [] h
  have i0 := hG.is0
  have r1 : aw_rM 0 1 = some 4 := rfl
  have i4 := hG.t4.2.1
  have n2 := hG.2.2.2
  unfold pz_remove at E
  refine ax_aload_n (q := 1) B d_S_remove_0 rfl rfl rfl ?_
  refine ax_getP (q := 4) B fl_S_30 rfl d_S_remove_1 (by assumption) (by assumption) rfl ?_
  refine ax_iload_n (q := 5) B d_S_remove_4 rfl rfl rfl ?_
  refine ax_qV1 (q := 8) B cv_S_40 d_S_remove_5 (by assumption) (Nat.le_of_ble_eq_true rfl) (by decide) (k_directoryAt hG.1 hG.t4 hT dir) rfl ?_
  cases hx : pz_nd t (fun c => c == 1) dir with
  | none =>
    simp only [hx] at E
    refine ax_astore_n (q := 9) B d_S_remove_8 rfl (by decide) rfl ?_
    refine ax_aload_n (q := 10) B d_S_remove_9 rfl rfl rfl ?_
    refine ax_ifnonnull (q := 15) (q2 := 13) B d_S_remove_10 rfl rfl (fun _ h10 => ?_) (fun h10 => ?_)
    · cases h10
    · refine ax_iconst (v := (-1)) (q := 14) B d_S_remove_13 ci_m1 rfl ?_
      refine ax_iret B E d_S_remove_14 ?_
      exact ⟨_, rfl, rfl, hS', fun q _ => rfl⟩
  | some d =>
    simp only [hx] at E
    obtain ⟨hd8, hk1, -⟩ := pz_nd_lt hx
    have hk1 : pz_kd t d = 1 := beq_iff_eq.mp hk1
    have nd := (hG.t4.2.2.2.2 d hd8).2
    have id := nd.1
    have hN := hT d hd8
    have hc10 := hN.2.2.2.2.2.1
    show aw_X M G 8 8 [some (.inl (some 0)), some (.inr dir), some (.inr name), none, none, none, none, none] [.inl (some (4 + 2 + 2 * d))] h
    refine ax_astore_n (q := 9) B d_S_remove_8 rfl (by decide) rfl ?_
    refine ax_aload_n (q := 10) B d_S_remove_9 rfl rfl rfl ?_
    refine ax_ifnonnull (q := 15) (q2 := 13) B d_S_remove_10 rfl rfl (fun _ _ => ?_) (fun z => by cases z)
    refine ax_aload_n (q := 16) B d_S_remove_15 rfl rfl rfl ?_
    refine ax_iload_n (q := 17) B d_S_remove_16 rfl rfl rfl ?_
    refine ax_qV1 (q := 20) B cv_S_48 d_S_remove_17 (by assumption) (Nat.le_of_ble_eq_true rfl) (by decide) (k_indexOfName hG.1 nd hN.lz _) rfl ?_
    refine ax_istore (q := 22) B d_S_remove_20 (by decide) rfl ?_
    refine ax_aload_n (q := 23) B d_S_remove_22 rfl rfl rfl ?_
    refine ax_getP (q := 26) B fl_S_30 rfl d_S_remove_23 (by assumption) (by assumption) rfl ?_
    refine ax_aload_n (q := 27) B d_S_remove_26 rfl rfl rfl ?_
    refine ax_iload (q := 29) B d_S_remove_27 rfl rfl ?_
    refine ax_qV1 (q := 32) B cv_S_103 d_S_remove_29 (by assumption) (Nat.le_of_ble_eq_true rfl) (by decide) (k_nodeOfItem hG.1 nd hN.lz (fun j hj => pz_ix_lt _ hj)) rfl ?_
    refine ax_qV1 (q := 35) B cv_S_106 d_S_remove_32 (by assumption) (Nat.le_of_ble_eq_true rfl) (by decide) (k_nodeAt hG.1 hG.t4 hT _) rfl ?_
    cases hix : pz_ix (pz_it t d) name (pz_ct t d) with
    | none =>
      simp only [hix] at E
      have hnd : pz_nd t (fun c => c != 0) (oI ((none : Option Nat).map (fun j => pz_it t d j % 16))) = none := pz_nd_m1
      rw [hnd]
      refine ax_astore (q := 37) B d_S_remove_35 (by decide) rfl ?_
      refine ax_aload (q := 39) B d_S_remove_37 rfl rfl ?_
      refine ax_ifnonnull (q := 44) (q2 := 42) B d_S_remove_39 rfl rfl (fun _ h39 => ?_) (fun h39 => ?_)
      · cases h39
      · refine ax_iconst (v := (-1)) (q := 43) B d_S_remove_42 ci_m1 rfl ?_
        refine ax_iret B E d_S_remove_43 ?_
        exact ⟨_, rfl, rfl, hS', fun q _ => rfl⟩
    | some j =>
      simp only [hix] at E
      have hj := pz_ix_lt _ hix
      obtain ⟨-, hm8, hm0, hmd, hmk⟩ := hwf.2.2.2.2.1 d hd8 hk1 j hj
      obtain ⟨m, hmm⟩ : ∃ m, m = pz_it t d j % 16 := ⟨_, rfl⟩
      rw [← hmm] at hm8 hm0 hmd hmk E
      have hnd : pz_nd t (fun c => c != 0) (oI ((some j).map (fun j => pz_it t d j % 16))) = some m := by
        show pz_nd t (fun c => c != 0) (nI (pz_it t d j % 16)) = some m
        rw [← hmm]
        unfold pz_nd
        rw [pz_no_N hm8, if_pos ⟨hm8, by simp [hmk]⟩]
      rw [hnd]
      have nm := (hG.t4.2.2.2.2 m hm8).2
      have im := nm.1
      obtain ⟨f1, f2, -, f4, f5, f6, -⟩ := hT m hm8
      have hcw := pz_cw_gone (ch := pz_ch t) hd8 hm8 hmd
      have hcp := pz_cp_le (pz_ch t) 8
      have hcl : pz_cw (pz_ch t) d 8 m 8 ≤ 100 := by split at hcw <;> split at hcw <;> omega
      have tail3 : ¬ aw_n G < k + 0 + pz_cw (pz_ch t) d 8 m 8 + 1 → ¬ (pz_kd t m = 1 ∧ 0 < pz_ct t m) → ∀ u, aw_X M G 8 97 [some (.inl (some 0)), some (.inr dir), some (.inr name), some (.inl (some (4 + 2 + 2 * d))), some (.inr (nI j)), some (.inl (some (4 + 2 + 2 * m))), u, none] [] h := by
        intro hfull hbusy u
        rw [if_neg hbusy, if_neg (by rw [hn]; exact hfull)] at E
        have hC := k_nodeOfItem (l := M.2.1) hG.1 nd hN.lz (o := some j) (fun i hi => by cases hi; exact hj)
        have hC : aw_I M.2.1 G 1 Y_N_nodeOfItem [.inl (some (4 + 2 + 2 * d)), .inr (nI j)] h (.inr (nI m)) := by
          rw [hmm]; exact hC
        refine ax_aload_n (q := 98) B d_S_remove_97 rfl rfl rfl ?_
        refine ax_iload (q := 100) B d_S_remove_98 rfl rfl ?_
        refine ax_qV1 (q := 103) B cv_S_103 d_S_remove_100 (by assumption) (Nat.le_of_ble_eq_true rfl) (by decide) hC rfl ?_
        refine ax_istore (q := 105) B d_S_remove_103 (by decide) rfl ?_
        refine ax_aload_n (q := 106) B d_S_remove_105 rfl rfl rfl ?_
        refine ax_iload (q := 108) B d_S_remove_106 rfl rfl ?_
        refine ax_pV1 (q := 111) B cv_S_116 d_S_remove_108 (by assumption) (Nat.le_of_ble_eq_true rfl) (by decide) (k_dropItem hG.1 nd hN.2.1 hc10 hj) rfl (fun h1 hh1 => ?_)
        have hT1 : hz_T 4 (pz_take t d j) h1 := take_T hT hd8 hj hh1
        have hf1 := hh1.2.2.2.2.2
        refine ax_aload (q := 113) B d_S_remove_111 rfl rfl ?_
        refine ax_pV0 (q := 116) B cv_S_119 d_S_remove_113 (by assumption) (Nat.le_of_ble_eq_true rfl) (by decide) (k_becomeAbsent hG.1 nm h1) rfl (fun h2 hh2 => ?_)
        have hT2 : hz_T 4 (pz_gone (pz_take t d j) m) h2 := by rw [hh2]; exact gone_T hT1 hm8
        have hf2 : ∀ q, q < 6 ∨ 22 ≤ q → h2 q = h q := fun q hq => by rw [hh2, hz_abs_ne (by omega), hf1 q (by omega) (by omega)]
        refine ax_iload (q := 118) B d_S_remove_116 rfl rfl ?_
        refine ax_iret B E d_S_remove_118 ?_
        exact ⟨_, rfl, rfl, ⟨hn, hm.kept (hf2 1 (by omega)) (hf2 2 (by omega)) (hf2 3 (by omega)), hT2⟩, fun q hq => hf2 q (by omega)⟩
      have tail2 : ¬ (pz_kd t m = 1 ∧ 0 < pz_ct t m) → ∀ g : Nat, (if pz_ch t m = true then 1 else 0) = g → aw_X M G 8 77 [some (.inl (some 0)), some (.inr dir), some (.inr name), some (.inl (some (4 + 2 + 2 * d))), some (.inr (nI j)), some (.inl (some (4 + 2 + 2 * m))), none, none] [.inr (nI g)] h := by
        intro hbusy g hg
        rw [hg] at hcw
        refine ax_istore (q := 79) B d_S_remove_77 (by decide) rfl ?_
        refine ax_aload_n (q := 80) B d_S_remove_79 rfl rfl rfl ?_
        refine ax_iconst (v := nI 0) (q := 81) B d_S_remove_80 ci_0 rfl ?_
        refine ax_aload_n (q := 82) B d_S_remove_81 rfl rfl rfl ?_
        refine ax_qV0 (q := 85) B cv_S_58 d_S_remove_82 (by assumption) (Nat.le_of_ble_eq_true rfl) (by decide) (k_ifUnchanged hG.1 nd hN.2.2.2.1) rfl ?_
        refine ax_iload (q := 87) B d_S_remove_85 rfl rfl ?_
        refine ax_isub (q := 88) B d_S_remove_87 rfl ?_
        refine ax_qV2 (q := 91) B cv_S_61 d_S_remove_88 (by assumption) (Nat.le_of_ble_eq_true rfl) (by decide) (k_isTooFull hG hm hT (c := pz_cw (pz_ch t) d 8 m 8) (by omega) hcl (nI_upd hcw)) rfl ?_
        refine ax_ifZ_eq (q := 97) (q2 := 94) B d_S_remove_91 rfl rfl (fun h91 => ?_) (fun h91 => ?_)
        · exact tail3 (of_decide_eq_false h91) hbusy _
        · rw [if_neg hbusy, if_pos (by rw [hn]; exact of_decide_eq_true h91)] at E
          refine ax_bipush (v := (-4)) (q := 96) B d_S_remove_94 cb_m4 rfl ?_
          refine ax_iret B E d_S_remove_96 ?_
          exact ⟨_, rfl, rfl, hS', fun q _ => rfl⟩
      have tail1 : ¬ (pz_kd t m = 1 ∧ 0 < pz_ct t m) → aw_X M G 8 64 [some (.inl (some 0)), some (.inr dir), some (.inr name), some (.inl (some (4 + 2 + 2 * d))), some (.inr (nI j)), some (.inl (some (4 + 2 + 2 * m))), none, none] [] h := by
        intro hbusy
        refine ax_aload (q := 66) B d_S_remove_64 rfl rfl ?_
        refine ax_getN (q := 69) B fl_S_112 rfl d_S_remove_66 (by assumption) (by first | assumption | rfl) rfl ?_
        refine ax_ifZ_eq (q := 76) (q2 := 72) B d_S_remove_69 rfl rfl (fun h69 => ?_) (fun h69 => ?_)
        · refine ax_iconst (v := nI 0) (q := 77) B d_S_remove_76 ci_0 rfl ?_
          first | exact tail2 hbusy 0 (by rw [h69]; rfl) | exact tail2 hbusy 1 (by rw [h69]; rfl)
        · refine ax_iconst (v := nI 1) (q := 73) B d_S_remove_72 ci_1 rfl ?_
          refine ax_goto (q := 77) B d_S_remove_73 rfl ?_
          first | exact tail2 hbusy 0 (by rw [h69]; rfl) | exact tail2 hbusy 1 (by rw [h69]; rfl)
      show aw_X M G 8 35 [some (.inl (some 0)), some (.inr dir), some (.inr name), some (.inl (some (4 + 2 + 2 * d))), some (.inr (nI j)), none, none, none] [.inl (some (4 + 2 + 2 * m))] h
      refine ax_astore (q := 37) B d_S_remove_35 (by decide) rfl ?_
      refine ax_aload (q := 39) B d_S_remove_37 rfl rfl ?_
      refine ax_ifnonnull (q := 44) (q2 := 42) B d_S_remove_39 rfl rfl (fun _ _ => ?_) (fun z => by cases z)
      refine ax_aload (q := 46) B d_S_remove_44 rfl rfl ?_
      refine ax_getN (q := 49) B fl_S_109 rfl d_S_remove_46 (by assumption) (by first | assumption | rfl) rfl ?_
      refine ax_iconst (v := nI 1) (q := 50) B d_S_remove_49 ci_1 rfl ?_
      refine ax_icmpN_ne (q := 64) (q2 := 53) B (by omega) (by omega) d_S_remove_50 rfl rfl (fun h50 => ?_) (fun h50 => ?_)
      · exact tail1 (fun z => by omega)
      · refine ax_aload (q := 55) B d_S_remove_53 rfl rfl ?_
        refine ax_getN (q := 58) B fl_S_80 rfl d_S_remove_55 (by assumption) (by first | assumption | rfl) rfl ?_
        refine ax_ifN_le (q := 64) (q2 := 61) B (by omega) d_S_remove_58 rfl rfl (fun h58 => ?_) (fun h58 => ?_)
        · exact tail1 (fun z => by omega)
        · rw [if_pos ⟨by omega, by omega⟩] at E
          refine ax_bipush (v := (-6)) (q := 63) B d_S_remove_61 cb_m6 rfl ?_
          refine ax_iret B E d_S_remove_63 ?_
          exact ⟨_, rfl, rfl, hS', fun q _ => rfl⟩
