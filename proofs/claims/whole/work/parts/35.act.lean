/- the class's calls that change something -/
theorem p_arm {l : Launch} {G : aw_G} (hG : gz G) {h : aw_H} {S : pz_S} (hS : cz G S h) (x : Int32) : aw_F l G 0 Y_S_arm [.inl (some 0), .inr x] h (fun v h' => v = .inr (pz_arm S x).1 ∧ cz G (pz_arm S x).2 h' ∧ ∀ q, 40 ≤ q → h' q = h q) := by
  obtain ⟨n, k, w, sp, t⟩ := S
  refine aw_met hG.1 (by decide) (Nat.le_of_ble_eq_true rfl) (fun M hM B E => ?_)
  show aw_X M G 2 0 [some (.inl (some 0)), some (.inr x)] [] h
  have i0 := hG.is0
  have i1 := hG.is1
  have r0 : aw_rM 0 0 = some 1 := rfl
  unfold pz_arm at E
  cases hx : pz_small x 1001 with
  | false =>
    have E : aw_E M G (some .boolean) (fun r h' => ∃ v, r = some v ∧ (v = .inr (if pz_small x 1001 = false then (nI 0, (n, k, w, sp, t)) else (nI 1, (n, k, w, x.toNatClampNeg + 1, t)) : Int32 × pz_S).1 ∧ cz G (if pz_small x 1001 = false then (nI 0, (n, k, w, sp, t)) else (nI 1, (n, k, w, x.toNatClampNeg + 1, t)) : Int32 × pz_S).2 h' ∧ ∀ q, 40 ≤ q → h' q = h q)) := E
    rw [if_pos hx] at E
    refine ax_iload_n (q := 1) B d_S_arm_0 rfl rfl rfl ?_
    refine ax_if_lt (q := 11) (q2 := 4) B d_S_arm_1 rfl rfl (fun h1 => ?_) (fun h1 => ?_)
    · refine ax_iconst (v := nI 0) (q := 12) B d_S_arm_11 ci_0 rfl ?_
      refine ax_zret B E (by first | exact bI_or _ | decide) d_S_arm_12 ?_
      exact ⟨_, rfl, rfl, hS, fun q _ => rfl⟩
    · refine ax_iload_n (q := 5) B d_S_arm_4 rfl rfl rfl ?_
      refine ax_sipush (v := nI 1000) (q := 8) B d_S_arm_5 cs_1000 rfl ?_
      refine ax_icmp_le (q := 13) (q2 := 11) B d_S_arm_8 rfl rfl (fun h8 => ?_) (fun h8 => ?_)
      · rw [pz_small_t h1 (fun z => by rw [Int32.le_iff_toInt_le] at z h8; rw [nI_toInt (by omega)] at z h8; omega)] at hx
        cases hx
      · refine ax_iconst (v := nI 0) (q := 12) B d_S_arm_11 ci_0 rfl ?_
        refine ax_zret B E (by first | exact bI_or _ | decide) d_S_arm_12 ?_
        exact ⟨_, rfl, rfl, hS, fun q _ => rfl⟩
  | true =>
    have E : aw_E M G (some .boolean) (fun r h' => ∃ v, r = some v ∧ (v = .inr (if pz_small x 1001 = false then (nI 0, (n, k, w, sp, t)) else (nI 1, (n, k, w, x.toNatClampNeg + 1, t)) : Int32 × pz_S).1 ∧ cz G (if pz_small x 1001 = false then (nI 0, (n, k, w, sp, t)) else (nI 1, (n, k, w, x.toNatClampNeg + 1, t)) : Int32 × pz_S).2 h' ∧ ∀ q, 40 ≤ q → h' q = h q)) := E
    rw [if_neg (by rw [hx]; decide)] at E
    obtain ⟨j, hj, rfl⟩ := pz_small_e (by omega) hx
    rw [nI_clamp (by omega)] at E
    obtain ⟨hn, ⟨hw, e3, e4, hk, hsp, hc⟩, hT⟩ := hS
    refine ax_iload_n (q := 1) B d_S_arm_0 rfl rfl rfl ?_
    refine ax_ifN_lt (q := 11) (q2 := 4) B (by omega) d_S_arm_1 rfl rfl ?_
    refine ax_iload_n (q := 5) B d_S_arm_4 rfl rfl rfl ?_
    refine ax_sipush (v := nI 1000) (q := 8) B d_S_arm_5 cs_1000 rfl ?_
    refine ax_icmpN_le (q := 13) (q2 := 11) B (by omega) (by omega) d_S_arm_8 rfl rfl (fun h8 => ?_) (fun h8 => ?_)
    · refine ax_aload_n (q := 14) B d_S_arm_13 rfl rfl rfl ?_
      refine ax_getP (q := 17) B fl_S_23 rfl d_S_arm_14 (by assumption) (by assumption) rfl ?_
      refine ax_iload_n (q := 18) B d_S_arm_17 rfl rfl rfl ?_
      refine ax_putN (q := 21) B fp_S_137 d_S_arm_18 (by assumption) rfl ?_
      refine ax_iconst (v := nI 1) (q := 22) B d_S_arm_21 ci_1 rfl ?_
      refine ax_zret B E (by first | exact bI_or _ | decide) d_S_arm_22 ?_
      exact ⟨_, rfl, rfl, ⟨hn, ⟨⟨aw_rd (by omega) hw.1, fun y hy => ⟨aw_rd (by omega) (hw.2 y hy).1, (hw.2 y hy).2⟩⟩, aw_rd (by omega) e3, aw_rs.trans (pk_m1 j).symm, hk, (show j + 1 ≤ 1001 by omega), fun p hp => aw_rd (by omega) (hc p hp)⟩, hT.kept (fun q q1 q2 => aw_u_ne (by omega))⟩, fun q hq => aw_u_ne (by omega)⟩
    · omega
theorem p_crash {l : Launch} {G : aw_G} (hG : gz G) {h : aw_H} {S : pz_S} (hS : cz G S h) (hI : pz_inv S) : aw_F l G 6 Y_S_crash [.inl (some 0)] h (fun v h' => v = .inr (pz_crash S).1 ∧ cz G (pz_crash S).2 h' ∧ ∀ q, 40 ≤ q → h' q = h q) := by
  obtain ⟨n, k, w, sp, t⟩ := S
  have hi := hI.iz
  obtain ⟨hn, hm, hT⟩ := hS
  have hm : mz G k sp w h := hm
  refine aw_met hG.1 (by decide) (Nat.le_of_ble_eq_true rfl) (fun M hM B E => ?_)
  show aw_X M G 1 0 [some (.inl (some 0))] [] h
  have i0 := hG.is0
  have i1 := hG.is1
  have r0 : aw_rM 0 0 = some 1 := rfl
  refine ax_aload_n (q := 1) B d_S_crash_0 rfl rfl rfl ?_
  refine ax_pV0 (q := 4) B cv_S_97 d_S_crash_1 (by assumption) (Nat.le_of_ble_eq_true rfl) (by decide) (k_readBack hG hm hi) rfl (fun h1 hh1 => ?_)
  obtain ⟨hT1, hf1⟩ := hh1
  have hm1 : mz G k sp w h1 := hm.kept (hf1 1 (by omega)) (hf1 2 (by omega)) (hf1 3 (by omega))
  refine ax_aload_n (q := 5) B d_S_crash_4 rfl rfl rfl ?_
  refine ax_getP (q := 8) B fl_S_23 rfl d_S_crash_5 (by assumption) (by assumption) rfl ?_
  refine ax_iconst (v := (-1)) (q := 9) B d_S_crash_8 ci_m1 rfl ?_
  refine ax_putN (q := 12) B fp_S_137 d_S_crash_9 (by assumption) rfl ?_
  obtain ⟨h2, hh2⟩ : ∃ h2, h2 = aw_u h1 1 4 (-1) := ⟨_, rfl⟩
  rw [← hh2]
  have hm2 : mz G k 0 w h2 := by
    obtain ⟨hw, e3, e4, hk, hsp, hc⟩ := hm1
    rw [hh2]
    exact ⟨⟨aw_rd (by omega) hw.1, fun y hy => ⟨aw_rd (by omega) (hw.2 y hy).1, (hw.2 y hy).2⟩⟩, aw_rd (by omega) e3, aw_rs, hk, by omega, fun p hp => aw_rd (by omega) (hc p hp)⟩
  have hT2 : hz_T 4 (pz_back w k) h2 := hT1.kept (fun q q1 q2 => by rw [hh2]; exact aw_u_ne (by omega))
  refine ax_aload_n (q := 13) B d_S_crash_12 rfl rfl rfl ?_
  refine ax_qV0 (q := 16) B cv_S_131 d_S_crash_13 (by assumption) (Nat.le_of_ble_eq_true rfl) (by decide) (k_newestNumber hG hm2 hi) rfl ?_
  exact ax_iret B E d_S_crash_16 ⟨_, rfl, rfl, ⟨hn, hm2, hT2⟩, fun q hq => by rw [hh2, aw_u_ne (by omega), hf1 q (by omega)]⟩
theorem sp_word {h : aw_H} {w : Nat → Nat} {n j y : Nat} (hw : ∀ x, x < 16 * n → h 2 x = nI (w x) ∧ w x < 65536) (wl : w (16 * j + 1) < 65536) (hy : y < 16 * n) : aw_u h 2 (16 * j + 1) (nI (w (16 * j + 1) ^^^ 1)) 2 y = nI (pz_up w (16 * j + 1) (w (16 * j + 1) ^^^ 1) y) ∧ pz_up w (16 * j + 1) (w (16 * j + 1) ^^^ 1) y < 65536 := by
  by_cases h1 : y = 16 * j + 1
  · subst h1
    rw [pz_up_s]
    exact ⟨aw_rs, pz_xor_lt (j := 16) wl (by omega)⟩
  · rw [pz_up_n h1]
    exact ⟨aw_rd (by omega) (hw y hy).1, (hw y hy).2⟩
theorem p_spoil {l : Launch} {G : aw_G} (hG : gz G) {h : aw_H} {S : pz_S} (hS : cz G S h) (x : Int32) : aw_F l G 2 Y_S_spoil [.inl (some 0), .inr x] h (fun v h' => v = .inr (pz_spoil S x).1 ∧ cz G (pz_spoil S x).2 h' ∧ ∀ q, 40 ≤ q → h' q = h q) := by
  obtain ⟨n, k, w, sp, t⟩ := S
  obtain ⟨hn, hm, hT⟩ := hS
  have hm : mz G k sp w h := hm
  refine aw_met hG.1 (by decide) (Nat.le_of_ble_eq_true rfl) (fun M hM B E => ?_)
  show aw_X M G 2 0 [some (.inl (some 0)), some (.inr x)] [] h
  have i0 := hG.is0
  have i1 := hG.is1
  have r0 : aw_rM 0 0 = some 1 := rfl
  have n2 := hG.2.2.2
  obtain ⟨hw, e3, e4, hk, hsp, hc⟩ := hm
  have E : aw_E M G (some .boolean) (fun r h' => ∃ v, r = some v ∧ (v = .inr (if pz_small x k = false then (nI 0, (n, k, w, sp, t)) else (nI 1, (n, k, pz_up w (16 * x.toNatClampNeg + 1) (w (16 * x.toNatClampNeg + 1) ^^^ 1), sp, t)) : Int32 × pz_S).1 ∧ cz G (if pz_small x k = false then (nI 0, (n, k, w, sp, t)) else (nI 1, (n, k, pz_up w (16 * x.toNatClampNeg + 1) (w (16 * x.toNatClampNeg + 1) ^^^ 1), sp, t)) : Int32 × pz_S).2 h' ∧ ∀ q, 40 ≤ q → h' q = h q)) := E
  refine ax_aload_n (q := 1) B d_S_spoil_0 rfl rfl rfl ?_
  refine ax_getP (q := 4) B fl_S_23 rfl d_S_spoil_1 (by assumption) (by assumption) rfl ?_
  refine ax_iload_n (q := 5) B d_S_spoil_4 rfl rfl rfl ?_
  refine ax_qV1 (q := 8) B cv_S_140 d_S_spoil_5 (by assumption) (Nat.le_of_ble_eq_true rfl) (by decide) (k_isWritten hG e3 _) rfl ?_
  cases hx : pz_small x k with
  | false =>
    rw [if_pos hx] at E
    refine ax_ifZ_ne (q := 13) (q2 := 11) B d_S_spoil_8 rfl rfl (fun h8 => ?_) (fun h8 => ?_)
    · cases h8
    · refine ax_iconst (v := nI 0) (q := 12) B d_S_spoil_11 ci_0 rfl ?_
      refine ax_zret B E (by first | exact bI_or _ | decide) d_S_spoil_12 ?_
      exact ⟨_, rfl, rfl, ⟨hn, ⟨hw, e3, e4, hk, hsp, hc⟩, hT⟩, fun q _ => rfl⟩
  | true =>
    rw [if_neg (by rw [hx]; decide)] at E
    obtain ⟨j, hj, rfl⟩ := pz_small_e (by omega) hx
    rw [nI_clamp (by omega)] at E
    obtain ⟨wj, wl⟩ := hw.2 (16 * j + 1) (by omega)
    refine ax_ifZ_ne (q := 13) (q2 := 11) B d_S_spoil_8 rfl rfl (fun h8 => ?_) (fun h8 => ?_)
    · refine ax_aload_n (q := 14) B d_S_spoil_13 rfl rfl rfl ?_
      refine ax_getP (q := 17) B fl_S_23 rfl d_S_spoil_14 (by assumption) (by assumption) rfl ?_
      refine ax_iload_n (q := 18) B d_S_spoil_17 rfl rfl rfl ?_
      refine ax_pV1 (q := 21) B cv_S_143 d_S_spoil_18 (by assumption) (Nat.le_of_ble_eq_true rfl) (by decide) (k_flipCheck hG e3 hk hj) rfl (fun h1 hh1 => ?_)
      rw [wj, nx_xor] at hh1
      subst hh1
      refine ax_iconst (v := nI 1) (q := 22) B d_S_spoil_21 ci_1 rfl ?_
      refine ax_zret B E (by first | exact bI_or _ | decide) d_S_spoil_22 ?_
      exact ⟨_, rfl, rfl, ⟨hn, ⟨⟨aw_rd (by omega) hw.1, fun y hy => sp_word hw.2 wl hy⟩, aw_rd (by omega) e3, aw_rd (by omega) e4, hk, hsp, fun p hp => aw_rd (by omega) ((hc p hp).trans (congrArg nI (pz_chk_ext (fun i hi h1 => (pz_up_n (by omega)).symm))))⟩, hT.kept (fun q q1 q2 => aw_u_ne (by omega))⟩, fun q hq => aw_u_ne (by omega)⟩
    · cases h8
