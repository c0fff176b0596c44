/- SessionTables.Tree at place tb: its array of nodes at tb + 1, node i at tb + 2 + 2 * i -/
theorem nz_of {G : aw_G} {p : Nat} (h1 : 6 ≤ p) (h2 : p < 40) (h3 : p ≠ 22) (h4 : p % 2 = 0) (hN : 40 ≤ aw_N G) : nz G p := by
  refine ⟨⟨by omega, ?_⟩, ?_, by omega, ?_⟩
  · unfold aw_sh
    rw [if_neg (by omega), if_neg (by omega), if_neg (by omega), if_neg (by omega), if_neg (by omega), if_neg (by omega), if_neg (by omega), if_neg (by omega), if_pos (by omega), if_pos h4]
  · unfold aw_rM
    rw [if_neg (by omega), if_neg (by omega), if_neg (by omega), if_neg (by omega), if_neg (by omega), if_neg (by omega), if_pos (by omega)]
  · unfold aw_sh
    rw [if_neg (by omega), if_neg (by omega), if_neg (by omega), if_neg (by omega), if_neg (by omega), if_neg (by omega), if_neg (by omega), if_neg (by omega), if_pos (by omega), if_neg (by omega)]
def tz (G : aw_G) (tb : Nat) : Prop := 4 ≤ tb ∧ aw_is G tb 2 ∧ aw_rM tb 0 = some (tb + 1) ∧ aw_ar G (tb + 1) 2 8 ∧ ∀ i, i < 8 → aw_rM (tb + 1) i = some (tb + 2 + 2 * i) ∧ nz G (tb + 2 + 2 * i)
theorem gz.t4 {G : aw_G} (h : gz G) : tz G 4 := ⟨by omega, ⟨by have := h.2.1; omega, rfl⟩, rfl, ⟨by have := h.2.1; omega, rfl⟩, fun i hi => ⟨rfl, nz_of (by omega) (by omega) (by omega) (by omega) h.2.1⟩⟩
theorem gz.t22 {G : aw_G} (h : gz G) : tz G 22 := ⟨by omega, ⟨by have := h.2.1; omega, rfl⟩, rfl, ⟨by have := h.2.1; omega, rfl⟩, fun i hi => ⟨rfl, nz_of (by omega) (by omega) (by omega) (by omega) h.2.1⟩⟩
/-- node i of the tree at tb is as tree t has it -/
def hz_N (tb : Nat) (t : pz_T) (h : aw_H) (i : Nat) : Prop := h (tb + 2 + 2 * i) 1 = nI (pz_kd t i) ∧ h (tb + 2 + 2 * i) 2 = nI (pz_ct t i) ∧ h (tb + 2 + 2 * i) 3 = nI (pz_en t i) + (-1) ∧ h (tb + 2 + 2 * i) 4 = bI (pz_ch t i) ∧ pz_kd t i < 65536 ∧ pz_ct t i ≤ 10 ∧ ∀ j, j < pz_ct t i → h (tb + 2 + 2 * i + 1) j = nI (pz_it t i j) ∧ pz_it t i j < 65536
def hz_T (tb : Nat) (t : pz_T) (h : aw_H) : Prop := ∀ i, i < 8 → hz_N tb t h i
theorem hz_N.lz {tb i : Nat} {t : pz_T} {h : aw_H} (hN : hz_N tb t h i) : lz h (tb + 2 + 2 * i) (pz_ct t i) (pz_it t i) := ⟨hN.2.1, hN.2.2.2.2.2.1, hN.2.2.2.2.2.2⟩
theorem hz_N.kept {tb i : Nat} {t : pz_T} {h h' : aw_H} (hN : hz_N tb t h i) (e1 : h' (tb + 2 + 2 * i) = h (tb + 2 + 2 * i)) (e2 : h' (tb + 2 + 2 * i + 1) = h (tb + 2 + 2 * i + 1)) : hz_N tb t h' i := by
  unfold hz_N
  rw [e1, e2]
  exact hN
theorem hz_N.ext {tb i : Nat} {t t' : pz_T} {h : aw_H} (hN : hz_N tb t h i) (e1 : pz_kd t' i = pz_kd t i) (e2 : pz_ct t' i = pz_ct t i) (e3 : pz_ch t' i = pz_ch t i) (e4 : pz_en t' i = pz_en t i) (e5 : ∀ j, j < pz_ct t i → pz_it t' i j = pz_it t i j) : hz_N tb t' h i := by
  obtain ⟨a1, a2, a3, a4, a5, a6, a7⟩ := hN
  unfold hz_N
  rw [e1, e2, e3, e4]
  exact ⟨a1, a2, a3, a4, a5, a6, fun j hj => by rw [e5 j hj]; exact a7 j hj⟩
def pz_none : pz_T := (fun _ => 0, fun _ => 0, fun _ => false, fun _ => 0, fun _ _ => 0)
theorem hz_abs_N {tb i : Nat} {t : pz_T} {h : aw_H} (e1 : pz_kd t i = 0) (e2 : pz_ct t i = 0) (e3 : pz_ch t i = false) (e4 : pz_en t i = 0) : hz_N tb t (hz_abs h (tb + 2 + 2 * i)) i := by
  unfold hz_N hz_abs
  rw [e1, e2, e3, e4]
  exact ⟨aw_rd (by omega) (aw_rd (by omega) (aw_rd (by omega) aw_rs)), aw_rd (by omega) (aw_rd (by omega) aw_rs), aw_rd (by omega) aw_rs, aw_rs, by omega, by omega, fun j hj => absurd hj (by omega)⟩
theorem hz_abs_ne {h : aw_H} {b q : Nat} (hq : q ≠ b) : hz_abs h b q = h q := by
  unfold hz_abs
  rw [aw_u_ne hq, aw_u_ne hq, aw_u_ne hq, aw_u_ne hq]
theorem hz_new_ne {h : aw_H} {b q : Nat} {x : Int32} (hq : q ≠ b) : hz_new h b x q = h q := by
  unfold hz_new
  rw [aw_u_ne hq, aw_u_ne hq, aw_u_ne hq, aw_u_ne hq]
theorem hz_new_N {tb i x : Nat} {t : pz_T} {h : aw_H} (hx : x < 65536) (e1 : pz_kd t i = x) (e2 : pz_ct t i = 0) (e3 : pz_ch t i = true) (e4 : pz_en t i = 0) : hz_N tb t (hz_new h (tb + 2 + 2 * i) (nI x)) i := by
  unfold hz_N hz_new
  rw [e1, e2, e3, e4]
  exact ⟨aw_rd (by omega) (aw_rd (by omega) (aw_rd (by omega) aw_rs)), aw_rd (by omega) (aw_rd (by omega) aw_rs), aw_rd (by omega) aw_rs, aw_rs, hx, by omega, fun j hj => absurd hj (by omega)⟩
theorem k_becomeNothing {l : Launch} {G : aw_G} (hG : aw_ok G) {tb : Nat} (ht : tz G tb) (h : aw_H) : aw_P l G 1 Y_T_becomeNothing [.inl (some tb)] h (fun h' => hz_T tb pz_none h' ∧ ∀ q, q < tb + 2 ∨ tb + 18 ≤ q → h' q = h q) := by
  refine aw_met hG (by decide) (Nat.le_of_ble_eq_true rfl) (fun M hM B E => ?_)
  show aw_X M G 2 0 [some (.inl (some tb)), none] [] h
  obtain ⟨ht4, it, rt, at1, hn⟩ := ht
  have loop : ∀ m j (f : aw_H), j + m = 8 → (∀ i, i < j → hz_N tb pz_none f i) → (∀ q, q < tb + 2 ∨ tb + 18 ≤ q → f q = h q) → aw_X M G 2 2 [some (.inl (some tb)), some (.inr (nI j))] [] f := by
    intro m
    induction m with
    | zero =>
      intro j f hj g1 g2
      have hj : j = 8 := by omega
      subst hj
      refine ax_iload_n (q := 3) B d_T_becomeNothing_2 rfl rfl rfl ?_
      refine ax_bipush (v := nI 8) (q := 5) B d_T_becomeNothing_3 cb_8 rfl ?_
      refine ax_icmpN_ge (q := 23) (q2 := 8) B (by omega) (by omega) d_T_becomeNothing_5 rfl rfl (fun h5 => ?_) (fun h5 => ?_)
      · refine ax_vret B E d_T_becomeNothing_23 ?_
        exact ⟨rfl, g1, g2⟩
      · omega
    | succ m ih =>
      intro j f hj g1 g2
      obtain ⟨rj, nj⟩ := hn j (by omega)
      have ij := nj.1
      refine ax_iload_n (q := 3) B d_T_becomeNothing_2 rfl rfl rfl ?_
      refine ax_bipush (v := nI 8) (q := 5) B d_T_becomeNothing_3 cb_8 rfl ?_
      refine ax_icmpN_ge (q := 23) (q2 := 8) B (by omega) (by omega) d_T_becomeNothing_5 rfl rfl (fun h5 => ?_) (fun h5 => ?_)
      · omega
      · refine ax_aload_n (q := 9) B d_T_becomeNothing_8 rfl rfl rfl ?_
        refine ax_getP (q := 12) B fl_T_11 rfl d_T_becomeNothing_9 (by assumption) (by assumption) rfl ?_
        refine ax_iload_n (q := 13) B d_T_becomeNothing_12 rfl rfl rfl ?_
        refine ax_aaldN (q := 14) B d_T_becomeNothing_13 (by assumption) rfl (by omega) (by omega) (by first | assumption | rfl) rfl ?_
        refine ax_pV0 (q := 17) B cv_T_18 d_T_becomeNothing_14 (by assumption) (Nat.le_of_ble_eq_true rfl) (by decide) (k_becomeAbsent hG nj f) rfl (fun f1 hf1 => ?_)
        refine ax_iincN (j := 1) (q := 20) B d_T_becomeNothing_17 rfl ii_1 (by decide) rfl ?_
        refine ax_goto (q := 2) B d_T_becomeNothing_20 rfl ?_
        subst hf1
        refine ih (j + 1) _ (by omega) (fun i hi => ?_) (fun q hq => (hz_abs_ne (by omega)).trans (g2 q hq))
        by_cases hij : i = j
        · subst hij; exact hz_abs_N rfl rfl rfl rfl
        · exact (g1 i (by omega)).kept (hz_abs_ne (by omega)) (hz_abs_ne (by omega))
  refine ax_iconst (v := nI 0) (q := 1) B d_T_becomeNothing_0 ci_0 rfl ?_
  refine ax_istore_n (q := 2) B d_T_becomeNothing_1 rfl (by decide) rfl ?_
  exact loop 8 0 h rfl (fun i hi => absurd hi (by omega)) (fun q _ => rfl)
theorem k_becomeEmpty {l : Launch} {G : aw_G} (hG : aw_ok G) {tb : Nat} (ht : tz G tb) (h : aw_H) : aw_P l G 2 Y_T_becomeEmpty [.inl (some tb)] h (fun h' => hz_T tb pz_empty h' ∧ ∀ q, q < tb + 2 ∨ tb + 18 ≤ q → h' q = h q) := by
  refine aw_met hG (by decide) (Nat.le_of_ble_eq_true rfl) (fun M hM B E => ?_)
  show aw_X M G 1 0 [some (.inl (some tb))] [] h
  have ht' := ht
  obtain ⟨ht4, it, rt, at1, hn⟩ := ht
  obtain ⟨r0, n0⟩ := hn 0 (by omega)
  have i0 := n0.1
  refine ax_aload_n (q := 1) B d_T_becomeEmpty_0 rfl rfl rfl ?_
  refine ax_pV0 (q := 4) B cv_T_21 d_T_becomeEmpty_1 (by assumption) (Nat.le_of_ble_eq_true rfl) (by decide) (k_becomeNothing hG ht' h) rfl (fun f1 hf1 => ?_)
  refine ax_aload_n (q := 5) B d_T_becomeEmpty_4 rfl rfl rfl ?_
  refine ax_getP (q := 8) B fl_T_11 rfl d_T_becomeEmpty_5 (by assumption) (by assumption) rfl ?_
  refine ax_iconst (v := nI 0) (q := 9) B d_T_becomeEmpty_8 ci_0 rfl ?_
  refine ax_aaldN (q := 10) B d_T_becomeEmpty_9 (by assumption) rfl (by omega) (by omega) (by first | assumption | rfl) rfl ?_
  refine ax_iconst (v := nI 1) (q := 11) B d_T_becomeEmpty_10 ci_1 rfl ?_
  refine ax_pV1 (q := 14) B cv_T_24 d_T_becomeEmpty_11 (by assumption) (Nat.le_of_ble_eq_true rfl) (by decide) (k_becomeNew hG n0 f1 _) rfl (fun f2 hf2 => ?_)
  refine ax_vret B E d_T_becomeEmpty_14 ⟨rfl, fun i hi => ?_, fun q hq => ?_⟩
  · subst hf2
    by_cases hi0 : i = 0
    · subst hi0; exact hz_new_N (by omega) rfl rfl rfl rfl
    · refine ((hf1.1 i hi).ext (t' := pz_empty) ?_ rfl ?_ rfl (fun j hj => rfl)).kept (hz_new_ne (by omega)) (hz_new_ne (by omega))
      · exact if_neg hi0
      · exact pz_beq_ne hi0
  · rw [hf2, hz_new_ne (by omega)]; exact hf1.2 q hq
