/-- the words of the medium -/
def wz (G : aw_G) (w : Nat → Nat) (h : aw_H) : Prop := h 1 0 = nI (aw_n G) ∧ ∀ x, x < 16 * aw_n G → h 2 x = nI (w x) ∧ w x < 65536
/-- what the sector at p names can be read -/
def rz (G : aw_G) (w : Nat → Nat) (p : Nat) : Prop := p < aw_n G ∧ ∀ i, i < 8 → pz_nm w p i = 0 ∨ (pz_nm w p i ≤ aw_n G ∧ w (16 * (pz_nm w p i - 1) + 5) ≤ 10)
theorem k_tbecome {l : Launch} {G : aw_G} (hG : gz G) {tb : Nat} (ht : tz G tb) {h : aw_H} {w : Nat → Nat} (hw : wz G w h) {p : Nat} (hr : rz G w p) : aw_P l G 3 Y_T_become [.inl (some tb), .inl (some 1), .inr (nI p)] h (fun h' => hz_T tb (pz_read w p) h' ∧ ∀ q, q < tb + 2 ∨ tb + 18 ≤ q → h' q = h q) := by
  refine aw_met hG.1 (by decide) (Nat.le_of_ble_eq_true rfl) (fun M hM B E => ?_)
  show aw_X M G 5 0 [some (.inl (some tb)), some (.inl (some 1)), some (.inr (nI p)), none, none] [] h
  have i1 := hG.is1
  have n1 := hG.2.2.1
  have n2 := hG.2.2.2
  obtain ⟨ht4, it, rt, at1, hn⟩ := ht
  obtain ⟨hp, hr⟩ := hr
  have loop : ∀ m j (f : aw_H) (u : Option aw_V), j + m = 8 → (∀ i, i < j → hz_N tb (pz_read w p) f i) → (∀ q, q < tb + 2 ∨ tb + 18 ≤ q → f q = h q) → aw_X M G 5 2 [some (.inl (some tb)), some (.inl (some 1)), some (.inr (nI p)), some (.inr (nI j)), u] [] f := by
    intro m
    induction m with
    | zero =>
      intro j f u hj g1 g2
      have hj : j = 8 := by omega
      subst hj
      refine ax_iload_n (q := 3) B d_T_become_2 rfl rfl rfl ?_
      refine ax_bipush (v := nI 8) (q := 5) B d_T_become_3 cb_8 rfl ?_
      refine ax_icmpN_ge (q := 55) (q2 := 8) B (by omega) (by omega) d_T_become_5 rfl rfl (fun h5 => ?_) (fun h5 => ?_)
      · refine ax_vret B E d_T_become_55 ?_
        exact ⟨rfl, g1, g2⟩
      · omega
    | succ m ih =>
      intro j f u hj g1 g2
      obtain ⟨rj, nj⟩ := hn j (by omega)
      have ij := nj.1
      have f0 : f 1 0 = nI (aw_n G) := by rw [g2 1 (by omega)]; exact hw.1
      have fw : ∀ x, x < 16 * aw_n G → f 2 x = nI (w x) ∧ w x < 65536 := fun x hx => by rw [g2 2 (by omega)]; exact hw.2 x hx
      have fj : f 2 (16 * p + (4 + j)) = nI (pz_nm w p j) := by rw [(fw _ (by omega)).1]; unfold pz_nm; rw [Nat.add_assoc]
      have hlt : pz_nm w p j < 65536 := by unfold pz_nm; exact (fw _ (by omega)).2
      have hrj := hr j (by omega)
      refine ax_iload_n (q := 3) B d_T_become_2 rfl rfl rfl ?_
      refine ax_bipush (v := nI 8) (q := 5) B d_T_become_3 cb_8 rfl ?_
      refine ax_icmpN_ge (q := 55) (q2 := 8) B (by omega) (by omega) d_T_become_5 rfl rfl (fun h5 => ?_) (fun h5 => ?_)
      · omega
      · refine ax_aload_n (q := 9) B d_T_become_8 rfl rfl rfl ?_
        refine ax_iload_n (q := 10) B d_T_become_9 rfl rfl rfl ?_
        refine ax_iconst (v := nI 4) (q := 11) B d_T_become_10 ci_4 rfl ?_
        refine ax_iload_n (q := 12) B d_T_become_11 rfl rfl rfl ?_
        first | refine ax_iaddN (q := 13) B d_T_become_12 rfl ?_ | refine ax_iadd (q := 13) B d_T_become_12 rfl ?_
        refine ax_qV2 (q := 16) B cv_T_28 d_T_become_13 (by assumption) (Nat.le_of_ble_eq_true rfl) (by decide) (k_wordAt hG f0 hp (by omega)) rfl ?_
        refine ax_top fj ?_
        refine ax_istore (q := 18) B d_T_become_16 (by decide) rfl ?_
        refine ax_iload (q := 20) B d_T_become_18 rfl rfl ?_
        refine ax_ifN_ne (q := 35) (q2 := 23) B (by omega) d_T_become_20 rfl rfl (fun h20 => ?_) (fun h20 => ?_)
        · refine ax_aload_n (q := 36) B d_T_become_35 rfl rfl rfl ?_
          refine ax_getP (q := 39) B fl_T_11 rfl d_T_become_36 (by assumption) (by assumption) rfl ?_
          refine ax_iload_n (q := 40) B d_T_become_39 rfl rfl rfl ?_
          refine ax_aaldN (q := 41) B d_T_become_40 (by assumption) rfl (by omega) (by omega) (by first | assumption | rfl) rfl ?_
          refine ax_aload_n (q := 42) B d_T_become_41 rfl rfl rfl ?_
          refine ax_iload (q := 44) B d_T_become_42 rfl rfl ?_
          refine ax_iconst (v := nI 1) (q := 45) B d_T_become_44 ci_1 rfl ?_
          refine ax_isubN (q := 46) B (by omega) d_T_become_45 rfl ?_
          have hc5 : w (16 * (pz_nm w p j - 1) + 5) ≤ 10 := by omega
          refine ax_pV2 (q := 49) B cv_T_34 d_T_become_46 (by assumption) (Nat.le_of_ble_eq_true rfl) (by decide) (k_nbecome hG nj (by omega) f0 (c := w (16 * (pz_nm w p j - 1) + 5)) (g := fun s => w (16 * (pz_nm w p j - 1) + 6 + s)) (by omega) (fw _ (by omega)).1 (fw _ (by omega)).1 hc5 (fun s hs => by rw [(fw _ (by omega)).1, Nat.add_assoc])) rfl (fun f1 hf1 => ?_)
          obtain ⟨q1, q2, q3, q4, q5, q6⟩ := hf1
          refine ax_iincN (j := 1) (q := 52) B d_T_become_49 rfl ii_1 (by decide) rfl ?_
          refine ax_goto (q := 2) B d_T_become_52 rfl ?_
          refine ih (j + 1) _ _ (by omega) (fun i hi => ?_) (fun q hq => (q6 q (by omega) (by omega)).trans (g2 q hq))
          by_cases hij : i = j
          · subst hij
            have hne : ¬ pz_nm w p i = 0 := by omega
            refine ⟨q1.trans (congrArg nI (if_neg hne).symm), q2.trans (congrArg nI (if_neg hne).symm), q3.trans ?_, q4, ?_, ?_, fun s hs => ?_⟩
            · show nI (pz_nm w p i - 1) = nI (pz_nm w p i) + (-1)
              rw [← pk_m1, Nat.sub_add_cancel h20]
            · show (if pz_nm w p i = 0 then 0 else w (16 * (pz_nm w p i - 1) + 4)) < 65536
              rw [if_neg hne]; exact (fw _ (by omega)).2
            · show (if pz_nm w p i = 0 then 0 else w (16 * (pz_nm w p i - 1) + 5)) ≤ 10
              rw [if_neg hne]; exact hc5
            · have hs : s < (if pz_nm w p i = 0 then 0 else w (16 * (pz_nm w p i - 1) + 5)) := hs
              rw [if_neg hne] at hs
              exact ⟨q5 s hs, (fw _ (by omega)).2⟩
          · exact (g1 i (by omega)).kept (q6 _ (by omega) (by omega)) (q6 _ (by omega) (by omega))
        · refine ax_aload_n (q := 24) B d_T_become_23 rfl rfl rfl ?_
          refine ax_getP (q := 27) B fl_T_11 rfl d_T_become_24 (by assumption) (by assumption) rfl ?_
          refine ax_iload_n (q := 28) B d_T_become_27 rfl rfl rfl ?_
          refine ax_aaldN (q := 29) B d_T_become_28 (by assumption) rfl (by omega) (by omega) (by first | assumption | rfl) rfl ?_
          refine ax_pV0 (q := 32) B cv_T_18 d_T_become_29 (by assumption) (Nat.le_of_ble_eq_true rfl) (by decide) (k_becomeAbsent hG.1 nj f) rfl (fun f1 hf1 => ?_)
          refine ax_goto (q := 49) B d_T_become_32 rfl ?_
          refine ax_iincN (j := 1) (q := 52) B d_T_become_49 rfl ii_1 (by decide) rfl ?_
          refine ax_goto (q := 2) B d_T_become_52 rfl ?_
          subst hf1
          refine ih (j + 1) _ _ (by omega) (fun i hi => ?_) (fun q hq => (hz_abs_ne (by omega)).trans (g2 q hq))
          by_cases hij : i = j
          · subst hij; exact hz_abs_N (if_pos h20) (if_pos h20) rfl h20
          · exact (g1 i (by omega)).kept (hz_abs_ne (by omega)) (hz_abs_ne (by omega))
  refine ax_iconst (v := nI 0) (q := 1) B d_T_become_0 ci_0 rfl ?_
  refine ax_istore_n (q := 2) B d_T_become_1 rfl (by decide) rfl ?_
  exact loop 8 0 h none rfl (fun i hi => absurd hi (by omega)) (fun q _ => rfl)
/-- the place of the node that x names -/
theorem k_nodeAt {l : Launch} {G : aw_G} (hG : aw_ok G) {tb : Nat} (ht : tz G tb) {h : aw_H} {t : pz_T} (hT : hz_T tb t h) (x : Int32) : aw_I l G 0 Y_T_nodeAt [.inl (some tb), .inr x] h (.inl ((pz_nd t (fun a => a != 0) x).map (fun i => tb + 2 + 2 * i))) := by
  refine aw_met hG (by decide) (Nat.le_of_ble_eq_true rfl) (fun M hM B E => ?_)
  show aw_X M G 2 0 [some (.inl (some tb)), some (.inr x)] [] h
  obtain ⟨ht4, it, rt, at1, hn⟩ := ht
  cases hx : pz_small x 8 with
  | false =>
    have hnd : pz_nd t (fun a => a != 0) x = none := if_neg (by rw [pz_no_8 hx]; omega)
    rw [hnd] at E
    refine ax_iload_n (q := 1) B d_T_nodeAt_0 rfl rfl rfl ?_
    refine ax_if_lt (q := 22) (q2 := 4) B d_T_nodeAt_1 rfl rfl (fun h1 => ?_) (fun h1 => ?_)
    · refine ax_null (q := 23) B d_T_nodeAt_22 rfl ?_
      refine ax_aret B E d_T_nodeAt_23 ?_
      exact ⟨rfl, rfl⟩
    · refine ax_iload_n (q := 5) B d_T_nodeAt_4 rfl rfl rfl ?_
      refine ax_bipush (v := nI 8) (q := 7) B d_T_nodeAt_5 cb_8 rfl ?_
      refine ax_icmp_ge (q := 22) (q2 := 10) B d_T_nodeAt_7 rfl rfl (fun h7 => ?_) (fun h7 => ?_)
      · refine ax_null (q := 23) B d_T_nodeAt_22 rfl ?_
        refine ax_aret B E d_T_nodeAt_23 ?_
        exact ⟨rfl, rfl⟩
      · rw [pz_small_t h1 h7] at hx
        cases hx
  | true =>
    obtain ⟨j, hj, rfl⟩ := pz_small_e (by omega) hx
    obtain ⟨rj, nj⟩ := hn j hj
    have ij := nj.1
    obtain ⟨ej, -, -, -, hkd, -⟩ := hT j hj
    have hnd : pz_nd t (fun a => a != 0) (nI j) = if pz_kd t j = 0 then none else some j := by
      unfold pz_nd
      rw [pz_no_N hj]
      by_cases hk : pz_kd t j = 0
      · rw [if_pos hk, hk]; exact if_neg (fun z => by cases z.2)
      · rw [if_neg hk, if_pos ⟨hj, by simp [hk]⟩]
    rw [hnd] at E
    refine ax_iload_n (q := 1) B d_T_nodeAt_0 rfl rfl rfl ?_
    refine ax_ifN_lt (q := 22) (q2 := 4) B (by omega) d_T_nodeAt_1 rfl rfl ?_
    refine ax_iload_n (q := 5) B d_T_nodeAt_4 rfl rfl rfl ?_
    refine ax_bipush (v := nI 8) (q := 7) B d_T_nodeAt_5 cb_8 rfl ?_
    refine ax_icmpN_ge (q := 22) (q2 := 10) B (by omega) (by omega) d_T_nodeAt_7 rfl rfl (fun h7 => ?_) (fun h7 => ?_)
    · first | (exfalso; omega) | (rw [if_pos h19] at E; refine ax_null (q := 23) B d_T_nodeAt_22 rfl ?_; exact ax_aret B E d_T_nodeAt_23 ⟨rfl, rfl⟩)
    · refine ax_aload_n (q := 11) B d_T_nodeAt_10 rfl rfl rfl ?_
      refine ax_getP (q := 14) B fl_T_11 rfl d_T_nodeAt_11 (by assumption) (by assumption) rfl ?_
      refine ax_iload_n (q := 15) B d_T_nodeAt_14 rfl rfl rfl ?_
      refine ax_aaldN (q := 16) B d_T_nodeAt_15 (by assumption) rfl (by omega) (by omega) (by first | assumption | rfl) rfl ?_
      refine ax_getN (q := 19) B fl_T_38 rfl d_T_nodeAt_16 (by assumption) (by first | assumption | rfl) rfl ?_
      refine ax_ifN_ne (q := 24) (q2 := 22) B (by omega) d_T_nodeAt_19 rfl rfl (fun h19 => ?_) (fun h19 => ?_)
      · rw [if_neg (by omega)] at E
        refine ax_aload_n (q := 25) B d_T_nodeAt_24 rfl rfl rfl ?_
        refine ax_getP (q := 28) B fl_T_11 rfl d_T_nodeAt_25 (by assumption) (by assumption) rfl ?_
        refine ax_iload_n (q := 29) B d_T_nodeAt_28 rfl rfl rfl ?_
        refine ax_aaldN (q := 30) B d_T_nodeAt_29 (by assumption) rfl (by omega) (by omega) (by first | assumption | rfl) rfl ?_
        refine ax_aret B E d_T_nodeAt_30 ?_
        exact ⟨rfl, rfl⟩
      · first | (exfalso; omega) | (rw [if_pos h19] at E; refine ax_null (q := 23) B d_T_nodeAt_22 rfl ?_; exact ax_aret B E d_T_nodeAt_23 ⟨rfl, rfl⟩)
theorem k_leastAbsent {l : Launch} {G : aw_G} (hG : aw_ok G) {tb : Nat} (ht : tz G tb) {h : aw_H} {t : pz_T} (hT : hz_T tb t h) : aw_I l G 0 Y_T_leastAbsent [.inl (some tb)] h (.inr (oI (pz_least (pz_kd t) 8))) := by
  refine aw_met hG (by decide) (Nat.le_of_ble_eq_true rfl) (fun M hM B E => ?_)
  show aw_X M G 2 0 [some (.inl (some tb)), none] [] h
  obtain ⟨ht4, it, rt, at1, hn⟩ := ht
  have mono : ∀ j i, pz_least (pz_kd t) j = some i → ∀ m, pz_least (pz_kd t) (j + m) = some i := by
    intro j i hj m
    induction m with
    | zero => exact hj
    | succ m ih =>
      show (match pz_least (pz_kd t) (j + m) with | some i => some i | none => if pz_kd t (j + m) = 0 then some (j + m) else none) = _
      rw [ih]
  have loop : ∀ m j, j + m = 8 → pz_least (pz_kd t) j = none → aw_X M G 2 2 [some (.inl (some tb)), some (.inr (nI j))] [] h := by
    intro m
    induction m with
    | zero =>
      intro j hj hz
      have hj : j = 8 := by omega
      subst hj
      refine ax_iload_n (q := 3) B d_T_leastAbsent_2 rfl rfl rfl ?_
      refine ax_bipush (v := nI 8) (q := 5) B d_T_leastAbsent_3 cb_8 rfl ?_
      refine ax_icmpN_ge (q := 28) (q2 := 8) B (by omega) (by omega) d_T_leastAbsent_5 rfl rfl (fun h5 => ?_) (fun h5 => ?_)
      · refine ax_iconst (v := (-1)) (q := 29) B d_T_leastAbsent_28 ci_m1 rfl ?_
        refine ax_iret B E d_T_leastAbsent_29 ?_
        exact ⟨by rw [hz]; rfl, rfl⟩
      · omega
    | succ m ih =>
      intro j hj hz
      obtain ⟨rj, nj⟩ := hn j (by omega)
      have ij := nj.1
      obtain ⟨ej, -, -, -, hkd, -⟩ := hT j (by omega)
      have hs : pz_least (pz_kd t) (j + 1) = if pz_kd t j = 0 then some j else none := by
        show (match pz_least (pz_kd t) j with | some i => some i | none => if pz_kd t j = 0 then some j else none) = _
        rw [hz]
      refine ax_iload_n (q := 3) B d_T_leastAbsent_2 rfl rfl rfl ?_
      refine ax_bipush (v := nI 8) (q := 5) B d_T_leastAbsent_3 cb_8 rfl ?_
      refine ax_icmpN_ge (q := 28) (q2 := 8) B (by omega) (by omega) d_T_leastAbsent_5 rfl rfl (fun h5 => ?_) (fun h5 => ?_)
      · omega
      · refine ax_aload_n (q := 9) B d_T_leastAbsent_8 rfl rfl rfl ?_
        refine ax_getP (q := 12) B fl_T_11 rfl d_T_leastAbsent_9 (by assumption) (by assumption) rfl ?_
        refine ax_iload_n (q := 13) B d_T_leastAbsent_12 rfl rfl rfl ?_
        refine ax_aaldN (q := 14) B d_T_leastAbsent_13 (by assumption) rfl (by omega) (by omega) (by first | assumption | rfl) rfl ?_
        refine ax_getN (q := 17) B fl_T_38 rfl d_T_leastAbsent_14 (by assumption) (by first | assumption | rfl) rfl ?_
        refine ax_ifN_ne (q := 22) (q2 := 20) B (by omega) d_T_leastAbsent_17 rfl rfl (fun h17 => ?_) (fun h17 => ?_)
        · refine ax_iincN (j := 1) (q := 25) B d_T_leastAbsent_22 rfl ii_1 (by decide) rfl ?_
          refine ax_goto (q := 2) B d_T_leastAbsent_25 rfl ?_
          exact ih (j + 1) (by omega) (by rw [hs, if_neg (by omega)])
        · refine ax_iload_n (q := 21) B d_T_leastAbsent_20 rfl rfl rfl ?_
          refine ax_iret B E d_T_leastAbsent_21 ?_
          exact ⟨by rw [show (8 : Nat) = j + 1 + m by omega, mono (j + 1) j (by rw [hs, if_pos h17]) m]; rfl, rfl⟩
  refine ax_iconst (v := nI 0) (q := 1) B d_T_leastAbsent_0 ci_0 rfl ?_
  refine ax_istore_n (q := 2) B d_T_leastAbsent_1 rfl (by decide) rfl ?_
  exact loop 8 0 rfl rfl
theorem k_countChanged {l : Launch} {G : aw_G} (hG : aw_ok G) {tb : Nat} (ht : tz G tb) {h : aw_H} {t : pz_T} (hT : hz_T tb t h) : aw_I l G 0 Y_T_countChanged [.inl (some tb)] h (.inr (nI (pz_nch t 8))) := by
  refine aw_met hG (by decide) (Nat.le_of_ble_eq_true rfl) (fun M hM B E => ?_)
  show aw_X M G 3 0 [some (.inl (some tb)), none, none] [] h
  obtain ⟨ht4, it, rt, at1, hn⟩ := ht
  have loop : ∀ m j, j + m = 8 → aw_X M G 3 4 [some (.inl (some tb)), some (.inr (nI (pz_nch t j))), some (.inr (nI j))] [] h := by
    intro m
    induction m with
    | zero =>
      intro j hj
      have hj : j = 8 := by omega
      subst hj
      refine ax_iload_n (q := 5) B d_T_countChanged_4 rfl rfl rfl ?_
      refine ax_bipush (v := nI 8) (q := 7) B d_T_countChanged_5 cb_8 rfl ?_
      refine ax_icmpN_ge (q := 31) (q2 := 10) B (by omega) (by omega) d_T_countChanged_7 rfl rfl (fun h7 => ?_) (fun h7 => ?_)
      · refine ax_iload_n (q := 32) B d_T_countChanged_31 rfl rfl rfl ?_
        refine ax_iret B E d_T_countChanged_32 ?_
        exact ⟨rfl, rfl⟩
      · omega
    | succ m ih =>
      intro j hj
      obtain ⟨rj, nj⟩ := hn j (by omega)
      have ij := nj.1
      obtain ⟨-, -, -, ej, -⟩ := hT j (by omega)
      have h3 := ih (j + 1) (by omega)
      rw [show pz_nch t (j + 1) = pz_nch t j + (if pz_ch t j = true then 1 else 0) from rfl] at h3
      refine ax_iload_n (q := 5) B d_T_countChanged_4 rfl rfl rfl ?_
      refine ax_bipush (v := nI 8) (q := 7) B d_T_countChanged_5 cb_8 rfl ?_
      refine ax_icmpN_ge (q := 31) (q2 := 10) B (by omega) (by omega) d_T_countChanged_7 rfl rfl (fun h7 => ?_) (fun h7 => ?_)
      · omega
      · refine ax_aload_n (q := 11) B d_T_countChanged_10 rfl rfl rfl ?_
        refine ax_getP (q := 14) B fl_T_11 rfl d_T_countChanged_11 (by assumption) (by assumption) rfl ?_
        refine ax_iload_n (q := 15) B d_T_countChanged_14 rfl rfl rfl ?_
        refine ax_aaldN (q := 16) B d_T_countChanged_15 (by assumption) rfl (by omega) (by omega) (by first | assumption | rfl) rfl ?_
        refine ax_getN (q := 19) B fl_T_46 rfl d_T_countChanged_16 (by assumption) (by first | assumption | rfl) rfl ?_
        refine ax_ifZ_eq (q := 25) (q2 := 22) B d_T_countChanged_19 rfl rfl (fun h19 => ?_) (fun h19 => ?_)
        · refine ax_iincN (j := 1) (q := 28) B d_T_countChanged_25 rfl ii_1 (by decide) rfl ?_
          refine ax_goto (q := 4) B d_T_countChanged_28 rfl ?_
          rw [h19] at h3
          exact h3
        · refine ax_iincN (j := 1) (q := 25) B d_T_countChanged_22 rfl ii_1 (by decide) rfl ?_
          refine ax_iincN (j := 1) (q := 28) B d_T_countChanged_25 rfl ii_1 (by decide) rfl ?_
          refine ax_goto (q := 4) B d_T_countChanged_28 rfl ?_
          rw [h19] at h3
          exact h3
  refine ax_iconst (v := nI 0) (q := 1) B d_T_countChanged_0 ci_0 rfl ?_
  refine ax_istore_n (q := 2) B d_T_countChanged_1 rfl (by decide) rfl ?_
  refine ax_iconst (v := nI 0) (q := 3) B d_T_countChanged_2 ci_0 rfl ?_
  refine ax_istore_n (q := 4) B d_T_countChanged_3 rfl (by decide) rfl ?_
  exact loop 8 0 rfl
