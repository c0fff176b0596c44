theorem mn_10 {c : Nat} (hc : c ≤ 10) : (if nI c < nI 10 then nI c else nI 10) = nI c := by
  split
  · rfl
  · rename_i h
    have : ¬ c < 10 := fun z => h (nI_lt z (by omega))
    rw [show c = 10 by omega]
theorem mx_0 {c : Nat} (hc : c < 2 ^ 31) : (if nI 0 < nI c then nI c else nI 0) = nI c := by
  split
  · rfl
  · rename_i h
    have : ¬ 0 < c := fun z => h (nI_lt z hc)
    rw [show c = 0 by omega]
theorem k_nodeOfItem {l : Launch} {G : aw_G} (hG : aw_ok G) {b : Nat} (hb : nz G b) {h : aw_H} {c : Nat} {f : Nat → Nat} (hL : lz h b c f) {o : Option Nat} (ho : ∀ j, o = some j → j < c) : aw_I l G 1 Y_N_nodeOfItem [.inl (some b), .inr (oI o)] h (.inr (oI (o.map (fun j => f j % 16)))) := by
  refine aw_met hG (by decide) (Nat.le_of_ble_eq_true rfl) (fun M hM B E => ?_)
  show aw_X M G 2 0 [some (.inl (some b)), some (.inr (oI o))] [] h
  have hb' := hb
  obtain ⟨ib, rb, ab⟩ := hb
  obtain ⟨e2, hc, hf⟩ := hL
  cases o with
  | none =>
    have hs : pz_small (-1) c = false := pz_small_1 (by decide)
    refine ax_aload_n (q := 1) B d_N_nodeOfItem_0 rfl rfl rfl ?_
    refine ax_iload_n (q := 2) B d_N_nodeOfItem_1 rfl rfl rfl ?_
    refine ax_qV1 (q := 5) B cv_N_43 d_N_nodeOfItem_2 (by assumption) (Nat.le_of_ble_eq_true rfl) (by decide) (k_has hG hb' e2 _) rfl ?_
    refine ax_ifZ_eq (q := 20) (q2 := 8) B d_N_nodeOfItem_5 rfl rfl (fun h5 => ?_) (fun h5 => ?_)
    · refine ax_iconst (v := (-1)) (q := 21) B d_N_nodeOfItem_20 ci_m1 rfl ?_
      refine ax_iret B E d_N_nodeOfItem_21 ?_
      exact ⟨rfl, rfl⟩
    · have h5 : pz_small (-1) c = true := h5
      rw [hs] at h5
      cases h5
  | some j =>
    have hj := ho j rfl
    obtain ⟨ej, hfj⟩ := hf j hj
    have hs : pz_small (nI j) c = true := pz_small_N (by omega) hj
    show aw_X M G 2 0 [some (.inl (some b)), some (.inr (nI j))] [] h
    refine ax_aload_n (q := 1) B d_N_nodeOfItem_0 rfl rfl rfl ?_
    refine ax_iload_n (q := 2) B d_N_nodeOfItem_1 rfl rfl rfl ?_
    refine ax_qV1 (q := 5) B cv_N_43 d_N_nodeOfItem_2 (by assumption) (Nat.le_of_ble_eq_true rfl) (by decide) (k_has hG hb' e2 _) rfl ?_
    refine ax_ifZ_eq (q := 20) (q2 := 8) B d_N_nodeOfItem_5 rfl rfl (fun h5 => ?_) (fun h5 => ?_)
    · rw [hs] at h5
      cases h5
    · refine ax_aload_n (q := 9) B d_N_nodeOfItem_8 rfl rfl rfl ?_
      refine ax_getP (q := 12) B fl_N_9 rfl d_N_nodeOfItem_9 (by assumption) (by assumption) rfl ?_
      refine ax_iload_n (q := 13) B d_N_nodeOfItem_12 rfl rfl rfl ?_
      refine ax_ialdN (q := 14) B d_N_nodeOfItem_13 (by assumption) rfl (by omega) (by omega) (by first | assumption | rfl) rfl ?_
      refine ax_bipush (v := nI 15) (q := 16) B d_N_nodeOfItem_14 cb_15 rfl ?_
      refine ax_iandN (q := 17) B 4 (by omega) (by decide) d_N_nodeOfItem_16 rfl ?_
      refine ax_goto (q := 21) B d_N_nodeOfItem_17 rfl ?_
      refine ax_iret B E d_N_nodeOfItem_21 ?_
      exact ⟨rfl, rfl⟩
theorem pz_hd_mono {f : Nat → Nat} {x j : Nat} (h : pz_hd f x j = true) : ∀ {c}, j ≤ c → pz_hd f x c = true := by
  intro c
  induction c with
  | zero =>
    intro hc
    have : j = 0 := by omega
    subst this
    exact h
  | succ c ih =>
    intro hc
    by_cases hj : j = c + 1
    · subst hj; exact h
    · show (pz_hd f x c || (f c % 16 == x)) = true
      rw [ih (by omega)]
      rfl
theorem k_holds {l : Launch} {G : aw_G} (hG : aw_ok G) {b : Nat} (hb : nz G b) {h : aw_H} {c : Nat} {f : Nat → Nat} (hL : lz h b c f) {x : Nat} (hx : x < 2 ^ 31) : aw_I l G 0 Y_N_holds [.inl (some b), .inr (nI x)] h (.inr (bI (pz_hd f x c))) := by
  refine aw_met hG (by decide) (Nat.le_of_ble_eq_true rfl) (fun M hM B E => ?_)
  show aw_X M G 3 0 [some (.inl (some b)), some (.inr (nI x)), none] [] h
  obtain ⟨ib, rb, ab⟩ := hb
  obtain ⟨e2, hc, hf⟩ := hL
  have loop : ∀ m j, j + m = c → pz_hd f x j = false → aw_X M G 3 2 [some (.inl (some b)), some (.inr (nI x)), some (.inr (nI j))] [] h := by
    intro m
    induction m with
    | zero =>
      intro j hj hn
      have hj : j = c := by omega
      subst hj
      refine ax_iload_n (q := 3) B d_N_holds_2 rfl rfl rfl ?_
      refine ax_aload_n (q := 4) B d_N_holds_3 rfl rfl rfl ?_
      refine ax_getN (q := 7) B fl_N_19 rfl d_N_holds_4 (by assumption) (by first | assumption | rfl) rfl ?_
      refine ax_icmpN_ge (q := 31) (q2 := 10) B (by omega) (by omega) d_N_holds_7 rfl rfl (fun h7 => ?_) (fun h7 => ?_)
      · refine ax_iconst (v := nI 0) (q := 32) B d_N_holds_31 ci_0 rfl ?_
        refine ax_zret B E (by first | exact bI_or _ | decide) d_N_holds_32 ?_
        exact ⟨by rw [hn]; rfl, rfl⟩
      · omega
    | succ m ih =>
      intro j hj hn
      obtain ⟨ej, hfj⟩ := hf j (by omega)
      have hx2 : pz_hd f x (j + 1) = (f j % 16 == x) := by
        show (pz_hd f x j || (f j % 16 == x)) = _
        rw [hn, Bool.false_or]
      have hm : f j % 2 ^ 4 = f j % 16 := rfl
      refine ax_iload_n (q := 3) B d_N_holds_2 rfl rfl rfl ?_
      refine ax_aload_n (q := 4) B d_N_holds_3 rfl rfl rfl ?_
      refine ax_getN (q := 7) B fl_N_19 rfl d_N_holds_4 (by assumption) (by first | assumption | rfl) rfl ?_
      refine ax_icmpN_ge (q := 31) (q2 := 10) B (by omega) (by omega) d_N_holds_7 rfl rfl (fun h7 => ?_) (fun h7 => ?_)
      · omega
      · refine ax_aload_n (q := 11) B d_N_holds_10 rfl rfl rfl ?_
        refine ax_getP (q := 14) B fl_N_9 rfl d_N_holds_11 (by assumption) (by assumption) rfl ?_
        refine ax_iload_n (q := 15) B d_N_holds_14 rfl rfl rfl ?_
        refine ax_ialdN (q := 16) B d_N_holds_15 (by assumption) rfl (by omega) (by omega) (by first | assumption | rfl) rfl ?_
        refine ax_bipush (v := nI 15) (q := 18) B d_N_holds_16 cb_15 rfl ?_
        refine ax_iandN (q := 19) B 4 (by omega) (by decide) d_N_holds_18 rfl ?_
        refine ax_iload_n (q := 20) B d_N_holds_19 rfl rfl rfl ?_
        refine ax_icmpN_ne (q := 25) (q2 := 23) B (by omega) (by omega) d_N_holds_20 rfl rfl (fun h20 => ?_) (fun h20 => ?_)
        · refine ax_iincN (j := 1) (q := 28) B d_N_holds_25 rfl ii_1 (by decide) rfl ?_
          refine ax_goto (q := 2) B d_N_holds_28 rfl ?_
          exact ih (j + 1) (by omega) (by rw [hx2]; exact pz_beq_ne (fun z => h20 z))
        · refine ax_iconst (v := nI 1) (q := 24) B d_N_holds_23 ci_1 rfl ?_
          refine ax_zret B E (by first | exact bI_or _ | decide) d_N_holds_24 ?_
          exact ⟨by rw [pz_hd_mono (j := j + 1) (by rw [hx2]; exact beq_iff_eq.mpr h20) (by omega)]; rfl, rfl⟩
  refine ax_iconst (v := nI 0) (q := 1) B d_N_holds_0 ci_0 rfl ?_
  refine ax_istore_n (q := 2) B d_N_holds_1 rfl (by decide) rfl ?_
  exact loop c 0 (by omega) rfl
theorem k_addItem {l : Launch} {G : aw_G} (hG : aw_ok G) {b : Nat} (hb : nz G b) {h : aw_H} {c : Nat} (e2 : h b 2 = nI c) (hc : c < 10) (x m : Nat) : aw_P l G 0 Y_N_addItem [.inl (some b), .inr (nI x), .inr (nI m)] h (fun h' => h' = aw_u (aw_u (aw_u h (b + 1) c (nI (x * 16 + m))) b 2 (nI (c + 1))) b 4 (nI 1)) := by
  refine aw_met hG (by decide) (Nat.le_of_ble_eq_true rfl) (fun M hM B E => ?_)
  show aw_X M G 3 0 [some (.inl (some b)), some (.inr (nI x)), some (.inr (nI m))] [] h
  obtain ⟨ib, rb, ab⟩ := hb
  have e2' : aw_u h (b + 1) c (nI (x * 16 + m)) b 2 = nI c := aw_rd (by omega) e2
  refine ax_aload_n (q := 1) B d_N_addItem_0 rfl rfl rfl ?_
  refine ax_getN (q := 4) B fl_N_19 rfl d_N_addItem_1 (by assumption) (by first | assumption | rfl) rfl ?_
  refine ax_bipush (v := nI 10) (q := 6) B d_N_addItem_4 cb_10 rfl ?_
  refine ax_icmpN_ge (q := 34) (q2 := 9) B (by omega) (by omega) d_N_addItem_6 rfl rfl (fun h6 => ?_) (fun h6 => ?_)
  · refine ax_aload_n (q := 35) B d_N_addItem_34 rfl rfl rfl ?_
    refine ax_iconst (v := nI 1) (q := 36) B d_N_addItem_35 ci_1 rfl ?_
    refine ax_putB (q := 39) B fp_N_25 (by first | exact bI_or _ | decide) d_N_addItem_36 (by assumption) rfl ?_
    refine ax_vret B E d_N_addItem_39 ?_
    first | exact ⟨rfl, rfl⟩ | (exfalso; omega)
  · refine ax_aload_n (q := 10) B d_N_addItem_9 rfl rfl rfl ?_
    refine ax_getP (q := 13) B fl_N_9 rfl d_N_addItem_10 (by assumption) (by assumption) rfl ?_
    refine ax_aload_n (q := 14) B d_N_addItem_13 rfl rfl rfl ?_
    refine ax_getN (q := 17) B fl_N_19 rfl d_N_addItem_14 (by assumption) (by first | assumption | rfl) rfl ?_
    refine ax_iload_n (q := 18) B d_N_addItem_17 rfl rfl rfl ?_
    refine ax_bipush (v := nI 16) (q := 20) B d_N_addItem_18 cb_16 rfl ?_
    first | refine ax_imulN (q := 21) B d_N_addItem_20 rfl ?_ | refine ax_imul (q := 21) B d_N_addItem_20 rfl ?_
    refine ax_iload_n (q := 22) B d_N_addItem_21 rfl rfl rfl ?_
    first | refine ax_iaddN (q := 23) B d_N_addItem_22 rfl ?_ | refine ax_iadd (q := 23) B d_N_addItem_22 rfl ?_
    refine ax_iastN (q := 24) B d_N_addItem_23 (by assumption) rfl (by omega) (by omega) rfl ?_
    refine ax_aload_n (q := 25) B d_N_addItem_24 rfl rfl rfl ?_
    refine ax_dup (q := 26) B d_N_addItem_25 rfl ?_
    refine ax_getN (x := nI c) (q := 29) B fl_N_19 rfl d_N_addItem_26 (by assumption) e2' rfl ?_
    refine ax_iconst (v := nI 1) (q := 30) B d_N_addItem_29 ci_1 rfl ?_
    first | refine ax_iaddN (q := 31) B d_N_addItem_30 rfl ?_ | refine ax_iadd (q := 31) B d_N_addItem_30 rfl ?_
    refine ax_putN (q := 34) B fp_N_19 d_N_addItem_31 (by assumption) rfl ?_
    refine ax_aload_n (q := 35) B d_N_addItem_34 rfl rfl rfl ?_
    refine ax_iconst (v := nI 1) (q := 36) B d_N_addItem_35 ci_1 rfl ?_
    refine ax_putB (q := 39) B fp_N_25 (by first | exact bI_or _ | decide) d_N_addItem_36 (by assumption) rfl ?_
    refine ax_vret B E d_N_addItem_39 ?_
    first | exact ⟨rfl, rfl⟩ | (exfalso; omega)
/-- behind dropItem(i): what holds of the node's cells -/
theorem k_dropItem {l : Launch} {G : aw_G} (hG : aw_ok G) {b : Nat} (hb : nz G b) {h : aw_H} {c : Nat} (e2 : h b 2 = nI c) (hc : c ≤ 10) {i : Nat} (hi : i < c) : aw_P l G 1 Y_N_dropItem [.inl (some b), .inr (nI i)] h (fun h' => h' b 1 = h b 1 ∧ h' b 2 = nI (c - 1) ∧ h' b 3 = h b 3 ∧ h' b 4 = nI 1 ∧ (∀ s, s < c - 1 → h' (b + 1) s = if s < i then h (b + 1) s else h (b + 1) (s + 1)) ∧ ∀ q, q ≠ b → q ≠ b + 1 → h' q = h q) := by
  refine aw_met hG (by decide) (Nat.le_of_ble_eq_true rfl) (fun M hM B E => ?_)
  show aw_X M G 3 0 [some (.inl (some b)), some (.inr (nI i)), none] [] h
  have hb' := hb
  obtain ⟨ib, rb, ab⟩ := hb
  have hs : pz_small (nI i) c = true := pz_small_N (by omega) hi
  have loop : ∀ m j (g : aw_H), j + m = c - 1 → i ≤ j → g b 1 = h b 1 → g b 2 = nI (c - 1) → g b 3 = h b 3 → (∀ s, s < j → g (b + 1) s = if s < i then h (b + 1) s else h (b + 1) (s + 1)) → (∀ s, j ≤ s → g (b + 1) s = h (b + 1) s) → (∀ q, q ≠ b → q ≠ b + 1 → g q = h q) → aw_X M G 3 20 [some (.inl (some b)), some (.inr (nI i)), some (.inr (nI j))] [] g := by
    intro m
    induction m with
    | zero =>
      intro j g hj hij g1 g2 g3 g4 g5 g6
      have hj : j = c - 1 := by omega
      subst hj
      refine ax_iload_n (q := 21) B d_N_dropItem_20 rfl rfl rfl ?_
      refine ax_aload_n (q := 22) B d_N_dropItem_21 rfl rfl rfl ?_
      refine ax_getN (q := 25) B fl_N_19 rfl d_N_dropItem_22 (by assumption) (by first | assumption | rfl) rfl ?_
      refine ax_icmpN_ge (q := 48) (q2 := 28) B (by omega) (by omega) d_N_dropItem_25 rfl rfl (fun h25 => ?_) (fun h25 => ?_)
      · refine ax_aload_n (q := 49) B d_N_dropItem_48 rfl rfl rfl ?_
        refine ax_iconst (v := nI 1) (q := 50) B d_N_dropItem_49 ci_1 rfl ?_
        refine ax_putB (q := 53) B fp_N_25 (by first | exact bI_or _ | decide) d_N_dropItem_50 (by assumption) rfl ?_
        refine ax_vret B E d_N_dropItem_53 ?_
        exact ⟨rfl, aw_rd (by omega) g1, aw_rd (by omega) g2, aw_rd (by omega) g3, aw_rs, fun s hs => aw_rd (by omega) (g4 s hs), fun q q1 q2 => (aw_u_ne q1).trans (g6 q q1 q2)⟩
      · omega
    | succ m ih =>
      intro j g hj hij g1 g2 g3 g4 g5 g6
      have gj : g (b + 1) (j + 1) = h (b + 1) (j + 1) := g5 (j + 1) (by omega)
      refine ax_iload_n (q := 21) B d_N_dropItem_20 rfl rfl rfl ?_
      refine ax_aload_n (q := 22) B d_N_dropItem_21 rfl rfl rfl ?_
      refine ax_getN (q := 25) B fl_N_19 rfl d_N_dropItem_22 (by assumption) (by first | assumption | rfl) rfl ?_
      refine ax_icmpN_ge (q := 48) (q2 := 28) B (by omega) (by omega) d_N_dropItem_25 rfl rfl (fun h25 => ?_) (fun h25 => ?_)
      · omega
      · refine ax_aload_n (q := 29) B d_N_dropItem_28 rfl rfl rfl ?_
        refine ax_getP (q := 32) B fl_N_9 rfl d_N_dropItem_29 (by assumption) (by assumption) rfl ?_
        refine ax_iload_n (q := 33) B d_N_dropItem_32 rfl rfl rfl ?_
        refine ax_aload_n (q := 34) B d_N_dropItem_33 rfl rfl rfl ?_
        refine ax_getP (q := 37) B fl_N_9 rfl d_N_dropItem_34 (by assumption) (by assumption) rfl ?_
        refine ax_iload_n (q := 38) B d_N_dropItem_37 rfl rfl rfl ?_
        refine ax_iconst (v := nI 1) (q := 39) B d_N_dropItem_38 ci_1 rfl ?_
        first | refine ax_iaddN (q := 40) B d_N_dropItem_39 rfl ?_ | refine ax_iadd (q := 40) B d_N_dropItem_39 rfl ?_
        refine ax_ialdN (q := 41) B d_N_dropItem_40 (by assumption) rfl (by omega) (by omega) (by first | assumption | rfl) rfl ?_
        refine ax_iastN (q := 42) B d_N_dropItem_41 (by assumption) rfl (by omega) (by omega) rfl ?_
        refine ax_iincN (j := 1) (q := 45) B d_N_dropItem_42 rfl ii_1 (by decide) rfl ?_
        refine ax_goto (q := 20) B d_N_dropItem_45 rfl ?_
        refine ih (j + 1) _ (by omega) (by omega) (aw_rd (by omega) g1) (aw_rd (by omega) g2) (aw_rd (by omega) g3) (fun s hs => ?_) (fun s hs => aw_rd (by omega) (g5 s (by omega))) (fun q q1 q2 => (aw_u_ne q2).trans (g6 q q1 q2))
        by_cases hsj : s = j
        · subst hsj; rw [if_neg (by omega)]; exact aw_rs
        · exact aw_rd (by omega) (g4 s (by omega))
  refine ax_aload_n (q := 1) B d_N_dropItem_0 rfl rfl rfl ?_
  refine ax_iload_n (q := 2) B d_N_dropItem_1 rfl rfl rfl ?_
  refine ax_qV1 (q := 5) B cv_N_43 d_N_dropItem_2 (by assumption) (Nat.le_of_ble_eq_true rfl) (by decide) (k_has hG hb' e2 _) rfl ?_
  refine ax_ifZ_eq (q := 48) (q2 := 8) B d_N_dropItem_5 rfl rfl (fun h5 => ?_) (fun h5 => ?_)
  · rw [hs] at h5
    cases h5
  · refine ax_aload_n (q := 9) B d_N_dropItem_8 rfl rfl rfl ?_
    refine ax_dup (q := 10) B d_N_dropItem_9 rfl ?_
    refine ax_getN (q := 13) B fl_N_19 rfl d_N_dropItem_10 (by assumption) (by first | assumption | rfl) rfl ?_
    refine ax_iconst (v := nI 1) (q := 14) B d_N_dropItem_13 ci_1 rfl ?_
    refine ax_isubN (q := 15) B (by omega) d_N_dropItem_14 rfl ?_
    refine ax_putN (q := 18) B fp_N_19 d_N_dropItem_15 (by assumption) rfl ?_
    refine ax_iload_n (q := 19) B d_N_dropItem_18 rfl rfl rfl ?_
    refine ax_istore_n (q := 20) B d_N_dropItem_19 rfl (by decide) rfl ?_
    exact loop (c - 1 - i) i _ (by omega) (Nat.le_refl _) (aw_rd (by omega) rfl) aw_rs (aw_rd (by omega) rfl) (fun s hs => by rw [if_pos hs]; exact aw_rd (by omega) rfl) (fun s hs => aw_rd (by omega) rfl) (fun q q1 q2 => aw_u_ne q1)
theorem k_setBlock {l : Launch} {G : aw_G} (hG : aw_ok G) {b : Nat} (hb : nz G b) {h : aw_H} {c : Nat} (e2 : h b 2 = nI c) (hc : c ≤ 10) {j : Nat} (hj : j < 10) (hjc : j ≤ c) (x : Int32) : aw_P l G 1 Y_N_setBlock [.inl (some b), .inr (nI j), .inr x] h (fun h' => h' = aw_u (aw_u (aw_u h (b + 1) j x) b 2 (nI (if j = c then j + 1 else c))) b 4 (nI 1)) := by
  refine aw_met hG (by decide) (Nat.le_of_ble_eq_true rfl) (fun M hM B E => ?_)
  show aw_X M G 3 0 [some (.inl (some b)), some (.inr (nI j)), some (.inr x)] [] h
  obtain ⟨ib, rb, ab⟩ := hb
  have e2' : aw_u h (b + 1) j x b 2 = nI c := aw_rd (by omega) e2
  have hm : (if nI c < nI (j + 1) then nI (j + 1) else nI c) = nI (if j = c then j + 1 else c) := by
    by_cases h1 : j = c
    · rw [if_pos h1, if_pos (nI_lt (by omega) (by omega))]
    · rw [if_neg h1, if_neg (nI_nlt (by omega) (by omega))]
  refine ax_iload_n (q := 1) B d_N_setBlock_0 rfl rfl rfl ?_
  refine ax_ifN_lt (q := 31) (q2 := 4) B (by omega) d_N_setBlock_1 rfl rfl ?_
  refine ax_iload_n (q := 5) B d_N_setBlock_4 rfl rfl rfl ?_
  refine ax_bipush (v := nI 10) (q := 7) B d_N_setBlock_5 cb_10 rfl ?_
  refine ax_icmpN_ge (q := 31) (q2 := 10) B (by omega) (by omega) d_N_setBlock_7 rfl rfl (fun h7 => ?_) (fun h7 => ?_)
  · first | (exfalso; omega) | skip
  · refine ax_aload_n (q := 11) B d_N_setBlock_10 rfl rfl rfl ?_
    refine ax_getP (q := 14) B fl_N_9 rfl d_N_setBlock_11 (by assumption) (by assumption) rfl ?_
    refine ax_iload_n (q := 15) B d_N_setBlock_14 rfl rfl rfl ?_
    refine ax_iload_n (q := 16) B d_N_setBlock_15 rfl rfl rfl ?_
    refine ax_iastN (q := 17) B d_N_setBlock_16 (by assumption) rfl (by omega) (by omega) rfl ?_
    refine ax_aload_n (q := 18) B d_N_setBlock_17 rfl rfl rfl ?_
    refine ax_aload_n (q := 19) B d_N_setBlock_18 rfl rfl rfl ?_
    refine ax_getN (x := nI c) (q := 22) B fl_N_19 rfl d_N_setBlock_19 (by assumption) e2' rfl ?_
    refine ax_iload_n (q := 23) B d_N_setBlock_22 rfl rfl rfl ?_
    refine ax_iconst (v := nI 1) (q := 24) B d_N_setBlock_23 ci_1 rfl ?_
    first | refine ax_iaddN (q := 25) B d_N_setBlock_24 rfl ?_ | refine ax_iadd (q := 25) B d_N_setBlock_24 rfl ?_
    refine ax_max (q := 28) B ml_N_40 ms_max mi_math mc_max d_N_setBlock_25 (Nat.le_of_ble_eq_true rfl) (by decide) rfl ?_
    refine ax_top hm ?_
    refine ax_putN (q := 31) B fp_N_19 d_N_setBlock_28 (by assumption) rfl ?_
    refine ax_aload_n (q := 32) B d_N_setBlock_31 rfl rfl rfl ?_
    refine ax_iconst (v := nI 1) (q := 33) B d_N_setBlock_32 ci_1 rfl ?_
    refine ax_putB (q := 36) B fp_N_25 (by decide) d_N_setBlock_33 (by assumption) rfl ?_
    exact ax_vret B E d_N_setBlock_36 ⟨rfl, rfl⟩
theorem k_nbecome {l : Launch} {G : aw_G} (hG : gz G) {b : Nat} (hb : nz G b) (hb4 : 4 ≤ b) {h : aw_H} (e0 : h 1 0 = nI (aw_n G)) {p c : Nat} {ty : Int32} {g : Nat → Nat} (hp : p < aw_n G) (w4 : h 2 (16 * p + 4) = ty) (w5 : h 2 (16 * p + 5) = nI c) (hc : c ≤ 10) (wj : ∀ j, j < c → h 2 (16 * p + (6 + j)) = nI (g j)) :
    aw_P l G 2 Y_N_become [.inl (some b), .inl (some 1), .inr (nI p)] h (fun h' => h' b 1 = ty ∧ h' b 2 = nI c ∧ h' b 3 = nI p ∧ h' b 4 = nI 0 ∧ (∀ j, j < c → h' (b + 1) j = nI (g j)) ∧ ∀ q, q ≠ b → q ≠ b + 1 → h' q = h q) := by
  refine aw_met hG.1 (by decide) (Nat.le_of_ble_eq_true rfl) (fun M hM B E => ?_)
  show aw_X M G 4 0 [some (.inl (some b)), some (.inl (some 1)), some (.inr (nI p)), none] [] h
  have i1 := hG.is1
  obtain ⟨ib, rb, ab⟩ := hb
  have loop : ∀ m j (f : aw_H), j + m = c → f b 1 = ty → f b 2 = nI c → (∀ s, s < j → f (b + 1) s = nI (g s)) → (∀ q, q ≠ b → q ≠ b + 1 → f q = h q) → aw_X M G 4 31 [some (.inl (some b)), some (.inl (some 1)), some (.inr (nI p)), some (.inr (nI j))] [] f := by
    intro m
    induction m with
    | zero =>
      intro j f hj g1 g2 g4 g6
      have hj : j = c := by omega
      subst hj
      refine ax_iload_n (q := 32) B d_N_become_31 rfl rfl rfl ?_
      refine ax_aload_n (q := 33) B d_N_become_32 rfl rfl rfl ?_
      refine ax_getN (q := 36) B fl_N_19 rfl d_N_become_33 (by assumption) (by first | assumption | rfl) rfl ?_
      refine ax_icmpN_ge (q := 60) (q2 := 39) B (by omega) (by omega) d_N_become_36 rfl rfl (fun h36 => ?_) (fun h36 => ?_)
      · refine ax_aload_n (q := 61) B d_N_become_60 rfl rfl rfl ?_
        refine ax_iload_n (q := 62) B d_N_become_61 rfl rfl rfl ?_
        refine ax_putN (q := 65) B fp_N_22 d_N_become_62 (by assumption) rfl ?_
        refine ax_aload_n (q := 66) B d_N_become_65 rfl rfl rfl ?_
        refine ax_iconst (v := nI 0) (q := 67) B d_N_become_66 ci_0 rfl ?_
        refine ax_putB (q := 70) B fp_N_25 (by first | exact bI_or _ | decide) d_N_become_67 (by assumption) rfl ?_
        refine ax_vret B E d_N_become_70 ?_
        exact ⟨rfl, aw_rd (by omega) (aw_rd (by omega) g1), aw_rd (by omega) (aw_rd (by omega) g2), aw_rd (by omega) aw_rs, aw_rs, fun s hs => aw_rd (by omega) (aw_rd (by omega) (g4 s hs)), fun q q1 q2 => (aw_u_ne q1).trans ((aw_u_ne q1).trans (g6 q q1 q2))⟩
      · omega
    | succ m ih =>
      intro j f hj g1 g2 g4 g6
      have f0 : f 1 0 = nI (aw_n G) := by rw [g6 1 (by omega) (by omega)]; exact e0
      have fw : f 2 (16 * p + (6 + j)) = nI (g j) := by rw [g6 2 (by omega) (by omega)]; exact wj j (by omega)
      refine ax_iload_n (q := 32) B d_N_become_31 rfl rfl rfl ?_
      refine ax_aload_n (q := 33) B d_N_become_32 rfl rfl rfl ?_
      refine ax_getN (q := 36) B fl_N_19 rfl d_N_become_33 (by assumption) (by first | assumption | rfl) rfl ?_
      refine ax_icmpN_ge (q := 60) (q2 := 39) B (by omega) (by omega) d_N_become_36 rfl rfl (fun h36 => ?_) (fun h36 => ?_)
      · omega
      · refine ax_aload_n (q := 40) B d_N_become_39 rfl rfl rfl ?_
        refine ax_getP (q := 43) B fl_N_9 rfl d_N_become_40 (by assumption) (by assumption) rfl ?_
        refine ax_iload_n (q := 44) B d_N_become_43 rfl rfl rfl ?_
        refine ax_aload_n (q := 45) B d_N_become_44 rfl rfl rfl ?_
        refine ax_iload_n (q := 46) B d_N_become_45 rfl rfl rfl ?_
        refine ax_bipush (v := nI 6) (q := 48) B d_N_become_46 cb_6 rfl ?_
        refine ax_iload_n (q := 49) B d_N_become_48 rfl rfl rfl ?_
        first | refine ax_iaddN (q := 50) B d_N_become_49 rfl ?_ | refine ax_iadd (q := 50) B d_N_become_49 rfl ?_
        refine ax_qV2 (q := 53) B cv_N_29 d_N_become_50 (by assumption) (Nat.le_of_ble_eq_true rfl) (by decide) (k_wordAt hG f0 hp (by omega)) rfl ?_
        refine ax_top fw ?_
        refine ax_iastN (q := 54) B d_N_become_53 (by assumption) rfl (by omega) (by omega) rfl ?_
        refine ax_iincN (j := 1) (q := 57) B d_N_become_54 rfl ii_1 (by decide) rfl ?_
        refine ax_goto (q := 31) B d_N_become_57 rfl ?_
        refine ih (j + 1) _ (by omega) (aw_rd (by omega) g1) (aw_rd (by omega) g2) (fun s hs => ?_) (fun q q1 q2 => (aw_u_ne q2).trans (g6 q q1 q2))
        by_cases hsj : s = j
        · subst hsj; exact aw_rs
        · exact aw_rd (by omega) (g4 s (by omega))
  refine ax_aload_n (q := 1) B d_N_become_0 rfl rfl rfl ?_
  refine ax_aload_n (q := 2) B d_N_become_1 rfl rfl rfl ?_
  refine ax_iload_n (q := 3) B d_N_become_2 rfl rfl rfl ?_
  refine ax_iconst (v := nI 4) (q := 4) B d_N_become_3 ci_4 rfl ?_
  refine ax_qV2 (q := 7) B cv_N_29 d_N_become_4 (by assumption) (Nat.le_of_ble_eq_true rfl) (by decide) (k_wordAt hG e0 hp (by omega)) rfl ?_
  refine ax_top w4 ?_
  refine ax_putN (q := 10) B fp_N_15 d_N_become_7 (by assumption) rfl ?_
  obtain ⟨h1, hh1⟩ : ∃ h1, h1 = aw_u h b 1 ty := ⟨_, rfl⟩
  rw [← hh1]
  have f0 : h1 1 0 = nI (aw_n G) := by rw [hh1]; exact aw_rd (by omega) e0
  have f5 : h1 2 (16 * p + 5) = nI c := by rw [hh1]; exact aw_rd (by omega) w5
  have f1 : h1 b 1 = ty := by rw [hh1]; exact aw_rs
  have f6 : ∀ q, q ≠ b → q ≠ b + 1 → h1 q = h q := fun q q1 q2 => by rw [hh1]; exact aw_u_ne q1
  refine ax_aload_n (q := 11) B d_N_become_10 rfl rfl rfl ?_
  refine ax_iconst (v := nI 0) (q := 12) B d_N_become_11 ci_0 rfl ?_
  refine ax_bipush (v := nI 10) (q := 14) B d_N_become_12 cb_10 rfl ?_
  refine ax_aload_n (q := 15) B d_N_become_14 rfl rfl rfl ?_
  refine ax_iload_n (q := 16) B d_N_become_15 rfl rfl rfl ?_
  refine ax_iconst (v := nI 5) (q := 17) B d_N_become_16 ci_5 rfl ?_
  refine ax_qV2 (q := 20) B cv_N_29 d_N_become_17 (by assumption) (Nat.le_of_ble_eq_true rfl) (by decide) (k_wordAt hG f0 hp (by omega)) rfl ?_
  refine ax_top f5 ?_
  refine ax_min (q := 23) B ml_N_35 ms_min mi_math mc_min d_N_become_20 (Nat.le_of_ble_eq_true rfl) (by decide) rfl ?_
  refine ax_top (mn_10 hc) ?_
  refine ax_max (q := 26) B ml_N_40 ms_max mi_math mc_max d_N_become_23 (Nat.le_of_ble_eq_true rfl) (by decide) rfl ?_
  refine ax_top (mx_0 (by omega)) ?_
  refine ax_putN (q := 29) B fp_N_19 d_N_become_26 (by assumption) rfl ?_
  refine ax_iconst (v := nI 0) (q := 30) B d_N_become_29 ci_0 rfl ?_
  refine ax_istore_n (q := 31) B d_N_become_30 rfl (by decide) rfl ?_
  exact loop c 0 _ (by omega) (aw_rd (by omega) f1) aw_rs (fun s hs => absurd hs (by omega)) (fun q q1 q2 => (aw_u_ne q1).trans (f6 q q1 q2))
