/-- the reference's tree in hand, node by node -/
def rtN (t : pz_T) (h : aw_H) (i : Nat) : Prop := h 42 i = nI (pz_kd t i) ∧ h 43 i = nI (pz_ct t i) ∧ h 45 i = bI (pz_ch t i) ∧ pz_kd t i < 65536 ∧ pz_ct t i ≤ 10 ∧ (∀ j, j < pz_ct t i → h 44 (10 * i + j) = nI (pz_it t i j) ∧ pz_it t i j < 65536) ∧ (pz_kd t i ≠ 0 → pz_ch t i = false → h 46 i = nI (pz_en t i) + (-1))
def rt (t : pz_T) (h : aw_H) : Prop := ∀ i, i < 8 → rtN t h i
/-- the tree that it looks at -/
def rsN (t : pz_T) (h : aw_H) (i : Nat) : Prop := h 47 i = nI (pz_kd t i) ∧ h 48 i = nI (pz_ct t i) ∧ pz_kd t i < 65536 ∧ pz_ct t i ≤ 10 ∧ ∀ j, j < pz_ct t i → h 49 (10 * i + j) = nI (pz_it t i j) ∧ pz_it t i j < 65536
def rs (t : pz_T) (h : aw_H) : Prop := ∀ i, i < 8 → rsN t h i
theorem rt.kept {t : pz_T} {h h' : aw_H} (hT : rt t h) (e : ∀ q, 42 ≤ q → q < 47 → h' q = h q) : rt t h' := fun i hi => by
  unfold rtN
  rw [e 42 (by omega) (by omega), e 43 (by omega) (by omega), e 44 (by omega) (by omega), e 45 (by omega) (by omega), e 46 (by omega) (by omega)]
  exact hT i hi
theorem r_emptyN {f : aw_H} (g1 : ∀ i, i < 8 → f 42 i = nI 0 ∧ f 43 i = nI 0 ∧ f 45 i = nI 0) (i : Nat) (hi : i < 8) : rtN pz_empty (aw_u (aw_u f 42 0 (nI 1)) 45 0 (nI 1)) i := by
  obtain ⟨q1, q2, q3⟩ := g1 i hi
  by_cases h0 : i = 0
  · subst h0
    exact ⟨aw_rd (by omega) aw_rs, aw_rd (by omega) (aw_rd (by omega) q2), aw_rs, by show (1 : Nat) < 65536; omega, by show (0 : Nat) ≤ 10; omega, fun j hj => absurd hj (by show ¬ j < 0; omega), fun _ z => by cases z⟩
  · have e1 : pz_kd pz_empty i = 0 := if_neg h0
    have e2 : pz_ch pz_empty i = false := pz_beq_ne h0
    unfold rtN
    rw [e1, e2]
    exact ⟨aw_rd (by omega) (aw_rd (by omega) q1), aw_rd (by omega) (aw_rd (by omega) q2), aw_rd (by omega) (aw_rd (by omega) q3), by omega, by show (0 : Nat) ≤ 10; omega, fun j hj => absurd hj (by show ¬ j < 0; omega), fun z => absurd rfl z⟩
theorem r_empty {l : Launch} {G : aw_G} (hG : gr G) (h : aw_H) : aw_P l G 0 Y_R_empty [.inl (some 40)] h (fun h' => rt pz_empty h' ∧ ∀ q, q < 42 ∨ 46 ≤ q → h' q = h q) := by
  refine aw_met hG.1.1 (by decide) (Nat.le_of_ble_eq_true rfl) (fun M hM B E => ?_)
  show aw_X M G 2 0 [some (.inl (some 40)), none] [] h
  have i40 := hG.i40
  have a42 := hG.a42
  have a43 := hG.a43
  have a45 := hG.a45
  have r5 : aw_rM 40 5 = some 42 := rfl
  have r6 : aw_rM 40 6 = some 43 := rfl
  have r8 : aw_rM 40 8 = some 45 := rfl
  have loop : ∀ m j (f : aw_H), j + m = 8 → (∀ i, i < j → f 42 i = nI 0 ∧ f 43 i = nI 0 ∧ f 45 i = nI 0) → (∀ q, q < 42 ∨ 46 ≤ q → f q = h q) → aw_X M G 2 2 [some (.inl (some 40)), some (.inr (nI j))] [] f := by
    intro m
    induction m with
    | zero =>
      intro j f hj g1 g2
      have hj : j = 8 := by omega
      subst hj
      refine ax_iload_n (q := 3) B d_R_empty_2 rfl rfl rfl ?_
      refine ax_bipush (v := nI 8) (q := 5) B d_R_empty_3 cb_8 rfl ?_
      refine ax_icmpN_ge (q := 35) (q2 := 8) B (by omega) (by omega) d_R_empty_5 rfl rfl (fun h5 => ?_) (fun h5 => ?_)
      · refine ax_aload_n (q := 36) B d_R_empty_35 rfl rfl rfl ?_
        refine ax_getP (q := 39) B fl_R_13 rfl d_R_empty_36 (by assumption) (by assumption) rfl ?_
        refine ax_iconst (v := nI 0) (q := 40) B d_R_empty_39 ci_0 rfl ?_
        refine ax_iconst (v := nI 1) (q := 41) B d_R_empty_40 ci_1 rfl ?_
        refine ax_iastN (q := 42) B d_R_empty_41 (by assumption) rfl (by omega) (by omega) rfl ?_
        refine ax_aload_n (q := 43) B d_R_empty_42 rfl rfl rfl ?_
        refine ax_getP (q := 46) B fl_R_22 rfl d_R_empty_43 (by assumption) (by assumption) rfl ?_
        refine ax_iconst (v := nI 0) (q := 47) B d_R_empty_46 ci_0 rfl ?_
        refine ax_iconst (v := nI 1) (q := 48) B d_R_empty_47 ci_1 rfl ?_
        refine ax_zastN (q := 49) B d_R_empty_48 (by assumption) rfl (by omega) (by omega) (by first | exact bI_or _ | decide) rfl ?_
        refine ax_vret B E d_R_empty_49 ?_
        exact ⟨rfl, fun i hi => r_emptyN g1 i hi, fun q hq => by rw [aw_u_ne (by omega), aw_u_ne (by omega)]; exact g2 q hq⟩
      · omega
    | succ m ih =>
      intro j f hj g1 g2
      refine ax_iload_n (q := 3) B d_R_empty_2 rfl rfl rfl ?_
      refine ax_bipush (v := nI 8) (q := 5) B d_R_empty_3 cb_8 rfl ?_
      refine ax_icmpN_ge (q := 35) (q2 := 8) B (by omega) (by omega) d_R_empty_5 rfl rfl (fun h5 => ?_) (fun h5 => ?_)
      · omega
      · refine ax_aload_n (q := 9) B d_R_empty_8 rfl rfl rfl ?_
        refine ax_getP (q := 12) B fl_R_13 rfl d_R_empty_9 (by assumption) (by assumption) rfl ?_
        refine ax_iload_n (q := 13) B d_R_empty_12 rfl rfl rfl ?_
        refine ax_iconst (v := nI 0) (q := 14) B d_R_empty_13 ci_0 rfl ?_
        refine ax_iastN (q := 15) B d_R_empty_14 (by assumption) rfl (by omega) (by omega) rfl ?_
        refine ax_aload_n (q := 16) B d_R_empty_15 rfl rfl rfl ?_
        refine ax_getP (q := 19) B fl_R_16 rfl d_R_empty_16 (by assumption) (by assumption) rfl ?_
        refine ax_iload_n (q := 20) B d_R_empty_19 rfl rfl rfl ?_
        refine ax_iconst (v := nI 0) (q := 21) B d_R_empty_20 ci_0 rfl ?_
        refine ax_iastN (q := 22) B d_R_empty_21 (by assumption) rfl (by omega) (by omega) rfl ?_
        refine ax_aload_n (q := 23) B d_R_empty_22 rfl rfl rfl ?_
        refine ax_getP (q := 26) B fl_R_22 rfl d_R_empty_23 (by assumption) (by assumption) rfl ?_
        refine ax_iload_n (q := 27) B d_R_empty_26 rfl rfl rfl ?_
        refine ax_iconst (v := nI 0) (q := 28) B d_R_empty_27 ci_0 rfl ?_
        refine ax_zastN (q := 29) B d_R_empty_28 (by assumption) rfl (by omega) (by omega) (by first | exact bI_or _ | decide) rfl ?_
        refine ax_iincN (j := 1) (q := 32) B d_R_empty_29 rfl ii_1 (by decide) rfl ?_
        refine ax_goto (q := 2) B d_R_empty_32 rfl ?_
        refine ih (j + 1) _ (by omega) (fun i hi => ?_) (fun q hq => by rw [aw_u_ne (by omega), aw_u_ne (by omega), aw_u_ne (by omega)]; exact g2 q hq)
        by_cases hij : i = j
        · subst hij; exact ⟨aw_rd (by omega) (aw_rd (by omega) aw_rs), aw_rd (by omega) aw_rs, aw_rs⟩
        · obtain ⟨q1, q2, q3⟩ := g1 i (by omega)
          exact ⟨aw_rd (by omega) (aw_rd (by omega) (aw_rd (by omega) q1)), aw_rd (by omega) (aw_rd (by omega) (aw_rd (by omega) q2)), aw_rd (by omega) (aw_rd (by omega) (aw_rd (by omega) q3))⟩
  refine ax_iconst (v := nI 0) (q := 1) B d_R_empty_0 ci_0 rfl ?_
  refine ax_istore_n (q := 2) B d_R_empty_1 rfl (by decide) rfl ?_
  exact loop 8 0 h rfl (fun i hi => absurd hi (by omega)) (fun q _ => rfl)
theorem r_lookAtHand {l : Launch} {G : aw_G} (hG : gr G) {h : aw_H} {t : pz_T} (hT : rt t h) : aw_P l G 0 Y_R_lookAtHand [.inl (some 40)] h (fun h' => rs t h' ∧ ∀ q, q < 47 ∨ 50 ≤ q → h' q = h q) := by
  refine aw_met hG.1.1 (by decide) (Nat.le_of_ble_eq_true rfl) (fun M hM B E => ?_)
  show aw_X M G 2 0 [some (.inl (some 40)), none] [] h
  have i40 := hG.i40
  have a42 := hG.a42
  have a43 := hG.a43
  have a44 := hG.a44
  have a47 := hG.a47
  have a48 := hG.a48
  have a49 := hG.a49
  have r5 : aw_rM 40 5 = some 42 := rfl
  have r6 : aw_rM 40 6 = some 43 := rfl
  have r7 : aw_rM 40 7 = some 44 := rfl
  have r10 : aw_rM 40 10 = some 47 := rfl
  have r11 : aw_rM 40 11 = some 48 := rfl
  have r12 : aw_rM 40 12 = some 49 := rfl
  have loop2 : ∀ m j (f : aw_H), j + m = 80 → (∀ i, i < 8 → f 47 i = h 42 i ∧ f 48 i = h 43 i) → (∀ x, x < j → f 49 x = h 44 x) → (∀ q, q < 47 ∨ 50 ≤ q → f q = h q) → aw_X M G 2 40 [some (.inl (some 40)), some (.inr (nI j))] [] f := by
    intro m
    induction m with
    | zero =>
      intro j f hj g1 g3 g2
      have hj : j = 80 := by omega
      subst hj
      refine ax_iload_n (q := 41) B d_R_lookAtHand_40 rfl rfl rfl ?_
      refine ax_bipush (v := nI 80) (q := 43) B d_R_lookAtHand_41 cb_80 rfl ?_
      refine ax_icmpN_ge (q := 64) (q2 := 46) B (by omega) (by omega) d_R_lookAtHand_43 rfl rfl (fun h43 => ?_) (fun h43 => ?_)
      · refine ax_vret B E d_R_lookAtHand_64 ?_
        exact ⟨rfl, fun i hi => ⟨(g1 i hi).1.trans (hT i hi).1, (g1 i hi).2.trans (hT i hi).2.1, (hT i hi).2.2.2.1, (hT i hi).2.2.2.2.1, fun s hs => ⟨(g3 _ (by have := (hT i hi).2.2.2.2.1; omega)).trans ((hT i hi).2.2.2.2.2.1 s hs).1, ((hT i hi).2.2.2.2.2.1 s hs).2⟩⟩, g2⟩
      · omega
    | succ m ih =>
      intro j f hj g1 g3 g2
      have e4 : f 44 j = h 44 j := by rw [g2 44 (by omega)]
      refine ax_iload_n (q := 41) B d_R_lookAtHand_40 rfl rfl rfl ?_
      refine ax_bipush (v := nI 80) (q := 43) B d_R_lookAtHand_41 cb_80 rfl ?_
      refine ax_icmpN_ge (q := 64) (q2 := 46) B (by omega) (by omega) d_R_lookAtHand_43 rfl rfl (fun h43 => ?_) (fun h43 => ?_)
      · omega
      · refine ax_aload_n (q := 47) B d_R_lookAtHand_46 rfl rfl rfl ?_
        refine ax_getP (q := 50) B fl_R_35 rfl d_R_lookAtHand_47 (by assumption) (by assumption) rfl ?_
        refine ax_iload_n (q := 51) B d_R_lookAtHand_50 rfl rfl rfl ?_
        refine ax_aload_n (q := 52) B d_R_lookAtHand_51 rfl rfl rfl ?_
        refine ax_getP (q := 55) B fl_R_19 rfl d_R_lookAtHand_52 (by assumption) (by assumption) rfl ?_
        refine ax_iload_n (q := 56) B d_R_lookAtHand_55 rfl rfl rfl ?_
        refine ax_ialdN (q := 57) B d_R_lookAtHand_56 (by assumption) rfl (by omega) (by omega) (by first | assumption | rfl) rfl ?_
        refine ax_iastN (q := 58) B d_R_lookAtHand_57 (by assumption) rfl (by omega) (by omega) rfl ?_
        refine ax_iincN (j := 1) (q := 61) B d_R_lookAtHand_58 rfl ii_1 (by decide) rfl ?_
        refine ax_goto (q := 40) B d_R_lookAtHand_61 rfl ?_
        refine ih (j + 1) _ (by omega) (fun i hi => ⟨aw_rd (by omega) (g1 i hi).1, aw_rd (by omega) (g1 i hi).2⟩) (fun x hx => ?_) (fun q hq => (aw_u_ne (by omega)).trans (g2 q hq))
        by_cases hxj : x = j
        · subst hxj; exact aw_rs
        · exact aw_rd (by omega) (g3 x (by omega))
  have loop : ∀ m j (f : aw_H), j + m = 8 → (∀ i, i < j → f 47 i = h 42 i ∧ f 48 i = h 43 i) → (∀ q, q < 47 ∨ 50 ≤ q → f q = h q) → aw_X M G 2 2 [some (.inl (some 40)), some (.inr (nI j))] [] f := by
    intro m
    induction m with
    | zero =>
      intro j f hj g1 g2
      have hj : j = 8 := by omega
      subst hj
      refine ax_iload_n (q := 3) B d_R_lookAtHand_2 rfl rfl rfl ?_
      refine ax_bipush (v := nI 8) (q := 5) B d_R_lookAtHand_3 cb_8 rfl ?_
      refine ax_icmpN_ge (q := 38) (q2 := 8) B (by omega) (by omega) d_R_lookAtHand_5 rfl rfl (fun h5 => ?_) (fun h5 => ?_)
      · refine ax_iconst (v := nI 0) (q := 39) B d_R_lookAtHand_38 ci_0 rfl ?_
        refine ax_istore_n (q := 40) B d_R_lookAtHand_39 rfl (by decide) rfl ?_
        exact loop2 80 0 f rfl g1 (fun x hx => absurd hx (by omega)) g2
      · omega
    | succ m ih =>
      intro j f hj g1 g2
      have e2 : f 42 j = h 42 j := by rw [g2 42 (by omega)]
      have e3 : aw_u f 47 j (h 42 j) 43 j = h 43 j := aw_rd (by omega) (by rw [g2 43 (by omega)])
      refine ax_iload_n (q := 3) B d_R_lookAtHand_2 rfl rfl rfl ?_
      refine ax_bipush (v := nI 8) (q := 5) B d_R_lookAtHand_3 cb_8 rfl ?_
      refine ax_icmpN_ge (q := 38) (q2 := 8) B (by omega) (by omega) d_R_lookAtHand_5 rfl rfl (fun h5 => ?_) (fun h5 => ?_)
      · omega
      · refine ax_aload_n (q := 9) B d_R_lookAtHand_8 rfl rfl rfl ?_
        refine ax_getP (q := 12) B fl_R_29 rfl d_R_lookAtHand_9 (by assumption) (by assumption) rfl ?_
        refine ax_iload_n (q := 13) B d_R_lookAtHand_12 rfl rfl rfl ?_
        refine ax_aload_n (q := 14) B d_R_lookAtHand_13 rfl rfl rfl ?_
        refine ax_getP (q := 17) B fl_R_13 rfl d_R_lookAtHand_14 (by assumption) (by assumption) rfl ?_
        refine ax_iload_n (q := 18) B d_R_lookAtHand_17 rfl rfl rfl ?_
        refine ax_ialdN (q := 19) B d_R_lookAtHand_18 (by assumption) rfl (by omega) (by omega) (by first | assumption | rfl) rfl ?_
        refine ax_iastN (q := 20) B d_R_lookAtHand_19 (by assumption) rfl (by omega) (by omega) rfl ?_
        refine ax_aload_n (q := 21) B d_R_lookAtHand_20 rfl rfl rfl ?_
        refine ax_getP (q := 24) B fl_R_32 rfl d_R_lookAtHand_21 (by assumption) (by assumption) rfl ?_
        refine ax_iload_n (q := 25) B d_R_lookAtHand_24 rfl rfl rfl ?_
        refine ax_aload_n (q := 26) B d_R_lookAtHand_25 rfl rfl rfl ?_
        refine ax_getP (q := 29) B fl_R_16 rfl d_R_lookAtHand_26 (by assumption) (by assumption) rfl ?_
        refine ax_iload_n (q := 30) B d_R_lookAtHand_29 rfl rfl rfl ?_
        refine ax_ialdN (q := 31) B d_R_lookAtHand_30 (by assumption) rfl (by omega) (by omega) (by first | assumption | rfl) rfl ?_
        refine ax_iastN (q := 32) B d_R_lookAtHand_31 (by assumption) rfl (by omega) (by omega) rfl ?_
        refine ax_iincN (j := 1) (q := 35) B d_R_lookAtHand_32 rfl ii_1 (by decide) rfl ?_
        refine ax_goto (q := 2) B d_R_lookAtHand_35 rfl ?_
        refine ih (j + 1) _ (by omega) (fun i hi => ?_) (fun q hq => by rw [aw_u_ne (by omega), aw_u_ne (by omega)]; exact g2 q hq)
        by_cases hij : i = j
        · subst hij; exact ⟨aw_rd (by omega) aw_rs, aw_rs⟩
        · exact ⟨aw_rd (by omega) (aw_rd (by omega) (g1 i (by omega)).1), aw_rd (by omega) (aw_rd (by omega) (g1 i (by omega)).2)⟩
  refine ax_iconst (v := nI 0) (q := 1) B d_R_lookAtHand_0 ci_0 rfl ?_
  refine ax_istore_n (q := 2) B d_R_lookAtHand_1 rfl (by decide) rfl ?_
  exact loop 8 0 h rfl (fun i hi => absurd hi (by omega)) (fun q _ => rfl)
/-- what the sector at p names can be read -/
def rz2 (w : Nat → Nat) (p : Nat) : Prop := p < 128 ∧ ∀ i, i < 8 → pz_nm w p i = 0 ∨ (pz_nm w p i ≤ 128 ∧ w (16 * (pz_nm w p i - 1) + 5) ≤ 10)
theorem r_lookAtTable {l : Launch} {G : aw_G} (hG : gr G) {h : aw_H} {w : Nat → Nat} (hw : rw_ w h) {p : Nat} (hr : rz2 w p) : aw_P l G 0 Y_R_lookAtTable [.inl (some 40), .inr (nI p)] h (fun h' => rs (pz_read w p) h' ∧ ∀ q, q < 47 ∨ 50 ≤ q → h' q = h q) := by
  refine aw_met hG.1.1 (by decide) (Nat.le_of_ble_eq_true rfl) (fun M hM B E => ?_)
  show aw_X M G 6 0 [some (.inl (some 40)), some (.inr (nI p)), none, none, none, none] [] h
  have i40 := hG.i40
  have a41 := hG.a41
  have a47 := hG.a47
  have a48 := hG.a48
  have a49 := hG.a49
  have r0 : aw_rM 40 0 = some 41 := rfl
  have r10 : aw_rM 40 10 = some 47 := rfl
  have r11 : aw_rM 40 11 = some 48 := rfl
  have r12 : aw_rM 40 12 = some 49 := rfl
  obtain ⟨hp, hr⟩ := hr
  have loop : ∀ m j (f : aw_H) (u3 u4 u5 : Option aw_V), j + m = 8 → (∀ i, i < j → rsN (pz_read w p) f i) → (∀ q, q < 47 ∨ 50 ≤ q → f q = h q) → aw_X M G 6 2 [some (.inl (some 40)), some (.inr (nI p)), some (.inr (nI j)), u3, u4, u5] [] f := by
    intro m
    induction m with
    | zero =>
      intro j f u3 u4 u5 hj g1 g2
      have hj : j = 8 := by omega
      subst hj
      refine ax_iload_n (q := 3) B d_R_lookAtTable_2 rfl rfl rfl ?_
      refine ax_bipush (v := nI 8) (q := 5) B d_R_lookAtTable_3 cb_8 rfl ?_
      refine ax_icmpN_ge (q := 134) (q2 := 8) B (by omega) (by omega) d_R_lookAtTable_5 rfl rfl (fun h5 => ?_) (fun h5 => ?_)
      · refine ax_vret B E d_R_lookAtTable_134 ?_
        exact ⟨rfl, g1, g2⟩
      · omega
    | succ m ih =>
      intro j f u3 u4 u5 hj g1 g2
      have fw : ∀ x, x < 2048 → f 41 x = nI (w x) ∧ w x < 65536 := fun x hx => by rw [g2 41 (by omega)]; exact hw x hx
      obtain ⟨ej, lj⟩ := fw (16 * p + 4 + j) (by omega)
      have ej : f 41 (16 * p + 4 + j) = nI (pz_nm w p j) := ej
      have lj : pz_nm w p j < 65536 := lj
      have hrj := hr j (by omega)
      have hkd : pz_kd (pz_read w p) j = if pz_nm w p j = 0 then 0 else w (16 * (pz_nm w p j - 1) + 4) := rfl
      have hct : pz_ct (pz_read w p) j = if pz_nm w p j = 0 then 0 else w (16 * (pz_nm w p j - 1) + 5) := rfl
      have hit : ∀ s, pz_it (pz_read w p) j s = w (16 * (pz_nm w p j - 1) + 6 + s) := fun s => rfl
      generalize hK : pz_kd (pz_read w p) j = K at hkd
      generalize hC : pz_ct (pz_read w p) j = C at hct
      have inner : ∀ m2 s (f1 : aw_H) (L : Int32) (u : Option aw_V), s + m2 = C → (C = 0 ∨ (L = nI (16 * (pz_nm w p j - 1)) ∧ 1 ≤ pz_nm w p j ∧ pz_nm w p j ≤ 128)) → C ≤ 10 → K < 65536 → f1 47 j = nI K → f1 48 j = nI C → (∀ x, x < s → f1 49 (10 * j + x) = nI (w (16 * (pz_nm w p j - 1) + 6 + x))) → (∀ i, i < j → rsN (pz_read w p) f1 i) → (∀ q, q < 47 ∨ 50 ≤ q → f1 q = h q) → aw_X M G 6 87 [some (.inl (some 40)), some (.inr (nI p)), some (.inr (nI j)), some (.inr L), u, some (.inr (nI s))] [] f1 := by
        intro m2
        induction m2 with
        | zero =>
          intro s f1 L u hs hL hC10 hK16 k1 k2 k3 k4 k5
          have hs : s = C := by omega
          subst hs
          refine ax_iload (q := 89) B d_R_lookAtTable_87 rfl rfl ?_
          refine ax_aload_n (q := 90) B d_R_lookAtTable_89 rfl rfl rfl ?_
          refine ax_getP (q := 93) B fl_R_32 rfl d_R_lookAtTable_90 (by assumption) (by assumption) rfl ?_
          refine ax_iload_n (q := 94) B d_R_lookAtTable_93 rfl rfl rfl ?_
          refine ax_ialdN (q := 95) B d_R_lookAtTable_94 (by assumption) rfl (by omega) (by omega) (by first | assumption | rfl) rfl ?_
          refine ax_icmpN_ge (q := 128) (q2 := 98) B (by omega) (by omega) d_R_lookAtTable_95 rfl rfl (fun h95 => ?_) (fun h95 => ?_)
          · refine ax_iincN (j := 1) (q := 131) B d_R_lookAtTable_128 rfl ii_1 (by decide) rfl ?_
            refine ax_goto (q := 2) B d_R_lookAtTable_131 rfl ?_
            refine ih (j + 1) f1 _ _ _ (by omega) (fun i hi => ?_) k5
            by_cases hij : i = j
            · subst hij
              unfold rsN
              rw [hK, hC]
              exact ⟨k1, k2, hK16, hC10, fun x hx => ⟨k3 x hx, (fw _ (by rcases hL with hL | hL <;> omega)).2⟩⟩
            · exact k4 i (by omega)
          · omega
        | succ m2 ih2 =>
          intro s f1 L u hs hL hC10 hK16 k1 k2 k3 k4 k5
          obtain ⟨hL, hn1, hn2⟩ : L = nI (16 * (pz_nm w p j - 1)) ∧ 1 ≤ pz_nm w p j ∧ pz_nm w p j ≤ 128 := by
            rcases hL with hL | hL
            · omega
            · exact hL
          subst hL
          obtain ⟨es, ls⟩ := hw (16 * (pz_nm w p j - 1) + 6 + s) (by omega)
          have es : f1 41 (16 * (pz_nm w p j - 1) + 6 + s) = nI (w (16 * (pz_nm w p j - 1) + 6 + s)) := by rw [k5 41 (by omega)]; exact es
          refine ax_iload (q := 89) B d_R_lookAtTable_87 rfl rfl ?_
          refine ax_aload_n (q := 90) B d_R_lookAtTable_89 rfl rfl rfl ?_
          refine ax_getP (q := 93) B fl_R_32 rfl d_R_lookAtTable_90 (by assumption) (by assumption) rfl ?_
          refine ax_iload_n (q := 94) B d_R_lookAtTable_93 rfl rfl rfl ?_
          refine ax_ialdN (q := 95) B d_R_lookAtTable_94 (by assumption) rfl (by omega) (by omega) (by first | assumption | rfl) rfl ?_
          refine ax_icmpN_ge (q := 128) (q2 := 98) B (by omega) (by omega) d_R_lookAtTable_95 rfl rfl (fun h95 => ?_) (fun h95 => ?_)
          · omega
          · refine ax_aload_n (q := 99) B d_R_lookAtTable_98 rfl rfl rfl ?_
            refine ax_getP (q := 102) B fl_R_35 rfl d_R_lookAtTable_99 (by assumption) (by assumption) rfl ?_
            refine ax_bipush (v := nI 10) (q := 104) B d_R_lookAtTable_102 cb_10 rfl ?_
            refine ax_iload_n (q := 105) B d_R_lookAtTable_104 rfl rfl rfl ?_
            first | refine ax_imulN (q := 106) B d_R_lookAtTable_105 rfl ?_ | refine ax_imul (q := 106) B d_R_lookAtTable_105 rfl ?_
            refine ax_iload (q := 108) B d_R_lookAtTable_106 rfl rfl ?_
            first | refine ax_iaddN (q := 109) B d_R_lookAtTable_108 rfl ?_ | refine ax_iadd (q := 109) B d_R_lookAtTable_108 rfl ?_
            refine ax_aload_n (q := 110) B d_R_lookAtTable_109 rfl rfl rfl ?_
            refine ax_getP (q := 113) B fl_R_7 rfl d_R_lookAtTable_110 (by assumption) (by assumption) rfl ?_
            refine ax_iload_n (q := 114) B d_R_lookAtTable_113 rfl rfl rfl ?_
            refine ax_bipush (v := nI 6) (q := 116) B d_R_lookAtTable_114 cb_6 rfl ?_
            first | refine ax_iaddN (q := 117) B d_R_lookAtTable_116 rfl ?_ | refine ax_iadd (q := 117) B d_R_lookAtTable_116 rfl ?_
            refine ax_iload (q := 119) B d_R_lookAtTable_117 rfl rfl ?_
            first | refine ax_iaddN (q := 120) B d_R_lookAtTable_119 rfl ?_ | refine ax_iadd (q := 120) B d_R_lookAtTable_119 rfl ?_
            refine ax_ialdN (q := 121) B d_R_lookAtTable_120 (by assumption) rfl (by omega) (by omega) es rfl ?_
            refine ax_iastN (q := 122) B d_R_lookAtTable_121 (by assumption) rfl (by omega) (by omega) rfl ?_
            refine ax_iincN (j := 1) (q := 125) B d_R_lookAtTable_122 rfl ii_1 (by decide) rfl ?_
            refine ax_goto (q := 87) B d_R_lookAtTable_125 rfl ?_
            refine ih2 (s + 1) _ _ _ (by omega) (Or.inr ⟨rfl, hn1, hn2⟩) hC10 hK16 (aw_rd (by omega) k1) (aw_rd (by omega) k2) (fun x hx => ?_) (fun i hi => ?_) (fun q hq => (aw_u_ne (by omega)).trans (k5 q hq))
            · by_cases hxs : x = s
              · subst hxs; exact aw_rs
              · exact aw_rd (by omega) (k3 x (by omega))
            · obtain ⟨b1, b2, b3, b4, b5⟩ := k4 i hi
              exact ⟨aw_rd (by omega) b1, aw_rd (by omega) b2, b3, b4, fun x hx => ⟨aw_rd (by omega) (b5 x hx).1, (b5 x hx).2⟩⟩
      have keep : ∀ i, i < j → rsN (pz_read w p) (aw_u (aw_u f 47 j (nI K)) 48 j (nI C)) i := fun i hi => by
        obtain ⟨b1, b2, b3, b4, b5⟩ := g1 i hi
        exact ⟨aw_rd (by omega) (aw_rd (by omega) b1), aw_rd (by omega) (aw_rd (by omega) b2), b3, b4, fun x hx => ⟨aw_rd (by omega) (aw_rd (by omega) (b5 x hx).1), (b5 x hx).2⟩⟩
      have keep2 : ∀ q, q < 47 ∨ 50 ≤ q → aw_u (aw_u f 47 j (nI K)) 48 j (nI C) q = h q := fun q hq => by rw [aw_u_ne (by omega), aw_u_ne (by omega)]; exact g2 q hq
      by_cases hz : pz_nm w p j = 0
      · rw [if_pos hz] at hkd hct
        subst hkd
        subst hct
        rw [hz] at ej
        refine ax_iload_n (q := 3) B d_R_lookAtTable_2 rfl rfl rfl ?_
        refine ax_bipush (v := nI 8) (q := 5) B d_R_lookAtTable_3 cb_8 rfl ?_
        refine ax_icmpN_ge (q := 134) (q2 := 8) B (by omega) (by omega) d_R_lookAtTable_5 rfl rfl (fun h5 => ?_) (fun h5 => ?_)
        · omega
        · refine ax_bipush (v := nI 16) (q := 10) B d_R_lookAtTable_8 cb_16 rfl ?_
          refine ax_aload_n (q := 11) B d_R_lookAtTable_10 rfl rfl rfl ?_
          refine ax_getP (q := 14) B fl_R_7 rfl d_R_lookAtTable_11 (by assumption) (by assumption) rfl ?_
          refine ax_bipush (v := nI 16) (q := 16) B d_R_lookAtTable_14 cb_16 rfl ?_
          refine ax_iload_n (q := 17) B d_R_lookAtTable_16 rfl rfl rfl ?_
          first | refine ax_imulN (q := 18) B d_R_lookAtTable_17 rfl ?_ | refine ax_imul (q := 18) B d_R_lookAtTable_17 rfl ?_
          refine ax_iconst (v := nI 4) (q := 19) B d_R_lookAtTable_18 ci_4 rfl ?_
          first | refine ax_iaddN (q := 20) B d_R_lookAtTable_19 rfl ?_ | refine ax_iadd (q := 20) B d_R_lookAtTable_19 rfl ?_
          refine ax_iload_n (q := 21) B d_R_lookAtTable_20 rfl rfl rfl ?_
          first | refine ax_iaddN (q := 22) B d_R_lookAtTable_21 rfl ?_ | refine ax_iadd (q := 22) B d_R_lookAtTable_21 rfl ?_
          refine ax_ialdN (q := 23) B d_R_lookAtTable_22 (by assumption) rfl (by omega) (by omega) ej rfl ?_
          refine ax_iconst (v := nI 1) (q := 24) B d_R_lookAtTable_23 ci_1 rfl ?_
          refine ax_isub (q := 25) B d_R_lookAtTable_24 rfl ?_
          refine ax_imul (q := 26) B d_R_lookAtTable_25 rfl ?_
          refine ax_top (show nI 16 * (nI 0 - nI 1) = -16 by decide) ?_
          refine ax_istore_n (q := 27) B d_R_lookAtTable_26 rfl (by decide) rfl ?_
          refine ax_iload_n (q := 28) B d_R_lookAtTable_27 rfl rfl rfl ?_
          refine ax_if_lt (q := 35) (q2 := 31) B d_R_lookAtTable_28 rfl rfl (fun h28 => ?_) (fun h28 => ?_)
          · refine ax_iconst (v := nI 0) (q := 36) B d_R_lookAtTable_35 ci_0 rfl ?_
            refine ax_istore (q := 38) B d_R_lookAtTable_36 (by decide) rfl ?_
            refine ax_aload_n (q := 39) B d_R_lookAtTable_38 rfl rfl rfl ?_
            refine ax_getP (q := 42) B fl_R_29 rfl d_R_lookAtTable_39 (by assumption) (by assumption) rfl ?_
            refine ax_iload_n (q := 43) B d_R_lookAtTable_42 rfl rfl rfl ?_
            refine ax_iload (q := 45) B d_R_lookAtTable_43 rfl rfl ?_
            refine ax_ifN_eq (q := 59) (q2 := 48) B (by omega) d_R_lookAtTable_45 rfl rfl (fun h45 => ?_) (fun h45 => ?_)
            · refine ax_iconst (v := nI 0) (q := 60) B d_R_lookAtTable_59 ci_0 rfl ?_
              refine ax_iastN (q := 61) B d_R_lookAtTable_60 (by assumption) rfl (by omega) (by omega) rfl ?_
              refine ax_aload_n (q := 62) B d_R_lookAtTable_61 rfl rfl rfl ?_
              refine ax_getP (q := 65) B fl_R_32 rfl d_R_lookAtTable_62 (by assumption) (by assumption) rfl ?_
              refine ax_iload_n (q := 66) B d_R_lookAtTable_65 rfl rfl rfl ?_
              refine ax_iload (q := 68) B d_R_lookAtTable_66 rfl rfl ?_
              refine ax_ifN_eq (q := 82) (q2 := 71) B (by omega) d_R_lookAtTable_68 rfl rfl (fun h68 => ?_) (fun h68 => ?_)
              · refine ax_iconst (v := nI 0) (q := 83) B d_R_lookAtTable_82 ci_0 rfl ?_
                refine ax_iastN (q := 84) B d_R_lookAtTable_83 (by assumption) rfl (by omega) (by omega) rfl ?_
                refine ax_iconst (v := nI 0) (q := 85) B d_R_lookAtTable_84 ci_0 rfl ?_
                refine ax_istore (q := 87) B d_R_lookAtTable_85 (by decide) rfl ?_
                exact inner 0 0 _ _ _ rfl (Or.inl rfl) (by omega) (by omega) (aw_rd (by omega) aw_rs) aw_rs (fun x hx => absurd hx (by omega)) keep keep2
              · omega
            · omega
          · exact absurd (by decide) h28
      · rw [if_neg hz] at hkd hct
        obtain ⟨hn2, hc10⟩ : pz_nm w p j ≤ 128 ∧ w (16 * (pz_nm w p j - 1) + 5) ≤ 10 := by
          rcases hrj with h1 | h1
          · exact absurd h1 hz
          · exact h1
        obtain ⟨e4, l4⟩ := fw (16 * (pz_nm w p j - 1) + 4) (by omega)
        obtain ⟨e5, l5⟩ := fw (16 * (pz_nm w p j - 1) + 5) (by omega)
        rw [← hkd] at e4 l4
        rw [← hct] at e5 l5 hc10
        have e5' : aw_u f 47 j (nI K) 41 (16 * (pz_nm w p j - 1) + 5) = nI C := aw_rd (by omega) e5
        refine ax_iload_n (q := 3) B d_R_lookAtTable_2 rfl rfl rfl ?_
        refine ax_bipush (v := nI 8) (q := 5) B d_R_lookAtTable_3 cb_8 rfl ?_
        refine ax_icmpN_ge (q := 134) (q2 := 8) B (by omega) (by omega) d_R_lookAtTable_5 rfl rfl (fun h5 => ?_) (fun h5 => ?_)
        · omega
        · refine ax_bipush (v := nI 16) (q := 10) B d_R_lookAtTable_8 cb_16 rfl ?_
          refine ax_aload_n (q := 11) B d_R_lookAtTable_10 rfl rfl rfl ?_
          refine ax_getP (q := 14) B fl_R_7 rfl d_R_lookAtTable_11 (by assumption) (by assumption) rfl ?_
          refine ax_bipush (v := nI 16) (q := 16) B d_R_lookAtTable_14 cb_16 rfl ?_
          refine ax_iload_n (q := 17) B d_R_lookAtTable_16 rfl rfl rfl ?_
          first | refine ax_imulN (q := 18) B d_R_lookAtTable_17 rfl ?_ | refine ax_imul (q := 18) B d_R_lookAtTable_17 rfl ?_
          refine ax_iconst (v := nI 4) (q := 19) B d_R_lookAtTable_18 ci_4 rfl ?_
          first | refine ax_iaddN (q := 20) B d_R_lookAtTable_19 rfl ?_ | refine ax_iadd (q := 20) B d_R_lookAtTable_19 rfl ?_
          refine ax_iload_n (q := 21) B d_R_lookAtTable_20 rfl rfl rfl ?_
          first | refine ax_iaddN (q := 22) B d_R_lookAtTable_21 rfl ?_ | refine ax_iadd (q := 22) B d_R_lookAtTable_21 rfl ?_
          refine ax_ialdN (q := 23) B d_R_lookAtTable_22 (by assumption) rfl (by omega) (by omega) ej rfl ?_
          refine ax_iconst (v := nI 1) (q := 24) B d_R_lookAtTable_23 ci_1 rfl ?_
          refine ax_isubN (q := 25) B (by omega) d_R_lookAtTable_24 rfl ?_
          first | refine ax_imulN (q := 26) B d_R_lookAtTable_25 rfl ?_ | refine ax_imul (q := 26) B d_R_lookAtTable_25 rfl ?_
          refine ax_istore_n (q := 27) B d_R_lookAtTable_26 rfl (by decide) rfl ?_
          refine ax_iload_n (q := 28) B d_R_lookAtTable_27 rfl rfl rfl ?_
          refine ax_ifN_lt (q := 35) (q2 := 31) B (by omega) d_R_lookAtTable_28 rfl rfl ?_
          refine ax_iconst (v := nI 1) (q := 32) B d_R_lookAtTable_31 ci_1 rfl ?_
          refine ax_goto (q := 36) B d_R_lookAtTable_32 rfl ?_
          refine ax_istore (q := 38) B d_R_lookAtTable_36 (by decide) rfl ?_
          refine ax_aload_n (q := 39) B d_R_lookAtTable_38 rfl rfl rfl ?_
          refine ax_getP (q := 42) B fl_R_29 rfl d_R_lookAtTable_39 (by assumption) (by assumption) rfl ?_
          refine ax_iload_n (q := 43) B d_R_lookAtTable_42 rfl rfl rfl ?_
          refine ax_iload (q := 45) B d_R_lookAtTable_43 rfl rfl ?_
          refine ax_ifN_eq (q := 59) (q2 := 48) B (by omega) d_R_lookAtTable_45 rfl rfl (fun h45 => ?_) (fun h45 => ?_)
          · omega
          · refine ax_aload_n (q := 49) B d_R_lookAtTable_48 rfl rfl rfl ?_
            refine ax_getP (q := 52) B fl_R_7 rfl d_R_lookAtTable_49 (by assumption) (by assumption) rfl ?_
            refine ax_iload_n (q := 53) B d_R_lookAtTable_52 rfl rfl rfl ?_
            refine ax_iconst (v := nI 4) (q := 54) B d_R_lookAtTable_53 ci_4 rfl ?_
            first | refine ax_iaddN (q := 55) B d_R_lookAtTable_54 rfl ?_ | refine ax_iadd (q := 55) B d_R_lookAtTable_54 rfl ?_
            refine ax_ialdN (q := 56) B d_R_lookAtTable_55 (by assumption) rfl (by omega) (by omega) e4 rfl ?_
            refine ax_goto (q := 60) B d_R_lookAtTable_56 rfl ?_
            refine ax_iastN (q := 61) B d_R_lookAtTable_60 (by assumption) rfl (by omega) (by omega) rfl ?_
            refine ax_aload_n (q := 62) B d_R_lookAtTable_61 rfl rfl rfl ?_
            refine ax_getP (q := 65) B fl_R_32 rfl d_R_lookAtTable_62 (by assumption) (by assumption) rfl ?_
            refine ax_iload_n (q := 66) B d_R_lookAtTable_65 rfl rfl rfl ?_
            refine ax_iload (q := 68) B d_R_lookAtTable_66 rfl rfl ?_
            refine ax_ifN_eq (q := 82) (q2 := 71) B (by omega) d_R_lookAtTable_68 rfl rfl (fun h68 => ?_) (fun h68 => ?_)
            · omega
            · refine ax_aload_n (q := 72) B d_R_lookAtTable_71 rfl rfl rfl ?_
              refine ax_getP (q := 75) B fl_R_7 rfl d_R_lookAtTable_72 (by assumption) (by assumption) rfl ?_
              refine ax_iload_n (q := 76) B d_R_lookAtTable_75 rfl rfl rfl ?_
              refine ax_iconst (v := nI 5) (q := 77) B d_R_lookAtTable_76 ci_5 rfl ?_
              first | refine ax_iaddN (q := 78) B d_R_lookAtTable_77 rfl ?_ | refine ax_iadd (q := 78) B d_R_lookAtTable_77 rfl ?_
              refine ax_ialdN (q := 79) B d_R_lookAtTable_78 (by assumption) rfl (by omega) (by omega) e5' rfl ?_
              refine ax_goto (q := 83) B d_R_lookAtTable_79 rfl ?_
              refine ax_iastN (q := 84) B d_R_lookAtTable_83 (by assumption) rfl (by omega) (by omega) rfl ?_
              refine ax_iconst (v := nI 0) (q := 85) B d_R_lookAtTable_84 ci_0 rfl ?_
              refine ax_istore (q := 87) B d_R_lookAtTable_85 (by decide) rfl ?_
              exact inner C 0 _ _ _ (by omega) (Or.inr ⟨rfl, by omega, hn2⟩) hc10 l4 (aw_rd (by omega) aw_rs) aw_rs (fun x hx => absurd hx (by omega)) keep keep2
  refine ax_iconst (v := nI 0) (q := 1) B d_R_lookAtTable_0 ci_0 rfl ?_
  refine ax_istore_n (q := 2) B d_R_lookAtTable_1 rfl (by decide) rfl ?_
  exact loop 8 0 h none none none rfl (fun i hi => absurd hi (by omega)) (fun q _ => rfl)
