theorem pz_tabs_le {w : Nat → Nat} : ∀ k, pz_tabs w k ≤ k
  | 0 => Nat.le_refl 0
  | k + 1 => by
    have := pz_tabs_le (w := w) k
    show pz_tabs w k + (if pz_valid w k = true then 1 else 0) ≤ k + 1
    split <;> omega
theorem pz_tabAt_neg {w : Nat → Nat} {x : Int32} (hx : x < 0) : ∀ k, k < 2 ^ 30 → pz_tabAt w x k = none
  | 0, _ => rfl
  | k + 1, hk => by
    rw [pz_tabAt_s (pz_tabAt_neg hx k (by omega))]
    refine if_neg (fun z => ?_)
    rw [← z.2] at hx
    exact nI_pos (by have := pz_tabs_le (w := w) (k + 1); omega) hx
theorem iz.rz2 {k p : Nat} {w : Nat → Nat} (hi : iz k w) (hk : k ≤ 128) (hp : p < k) (h3 : w (16 * p) = 3) : rz2 w p := ⟨by omega, fun i hi8 => by
  obtain ⟨h1, h2⟩ := hi p hp h3 i hi8
  rcases h2 with h2 | h2
  · exact Or.inl h2
  · exact Or.inr ⟨by omega, h2⟩⟩
theorem r_look {l : Launch} {G : aw_G} (hG : gr G) {h : aw_H} {k : Nat} {w : Nat → Nat} {t : pz_T} (hw : rw_ w h) (hk : k ≤ 128) (e3 : h 40 2 = nI k) (hi : iz k w) (hT : rt t h) (x : Int32) : aw_F l G 5 Y_R_look [.inl (some 40), .inr x] h (fun v h' => (∀ q, q < 47 ∨ 50 ≤ q → h' q = h q) ∧ ((v = .inr (bI true) ∧ rs (if x = 0 then t else pz_past w x k) h') ∨ (v = .inr (bI false) ∧ (if x = 0 then t else pz_past w x k) = pz_none))) := by
  refine aw_met hG.1.1 (by decide) (Nat.le_of_ble_eq_true rfl) (fun M hM B E => ?_)
  show aw_X M G 3 0 [some (.inl (some 40)), some (.inr x), none] [] h
  have i40 := hG.i40
  have tail : ¬ x = 0 → ∀ o : Option Nat, pz_tabAt w x k = o → aw_X M G 3 23 [some (.inl (some 40)), some (.inr x), none] [.inr (oI o)] h := by
    intro hx0 o ho
    rw [if_neg hx0] at E
    unfold pz_past at E
    rw [ho] at E
    cases o with
    | none =>
      refine ax_istore_n (q := 24) B d_R_look_23 rfl (by decide) rfl ?_
      refine ax_iload_n (q := 25) B d_R_look_24 rfl rfl rfl ?_
      refine ax_if_ge (q := 30) (q2 := 28) B d_R_look_25 rfl rfl (fun h25 => ?_) (fun h25 => ?_)
      · exact absurd h25 (by decide)
      · refine ax_iconst (v := nI 0) (q := 29) B d_R_look_28 ci_0 rfl ?_
        refine ax_zret B E (by first | exact bI_or _ | decide) d_R_look_29 ?_
        exact ⟨_, rfl, fun q _ => rfl, Or.inr ⟨rfl, rfl⟩⟩
    | some p =>
      obtain ⟨hp, hv⟩ := pz_tabAt_lt k ho
      show aw_X M G 3 23 [some (.inl (some 40)), some (.inr x), none] [.inr (nI p)] h
      refine ax_istore_n (q := 24) B d_R_look_23 rfl (by decide) rfl ?_
      refine ax_iload_n (q := 25) B d_R_look_24 rfl rfl rfl ?_
      refine ax_ifN_ge (q := 30) (q2 := 28) B (by omega) d_R_look_25 rfl rfl ?_
      refine ax_aload_n (q := 31) B d_R_look_30 rfl rfl rfl ?_
      refine ax_iload_n (q := 32) B d_R_look_31 rfl rfl rfl ?_
      refine ax_pV1 (q := 35) B cv_R_88 d_R_look_32 (by assumption) (Nat.le_of_ble_eq_true rfl) (by decide) (r_lookAtTable hG hw (hi.rz2 hk hp (pz_valid_3 hv))) rfl (fun h1 hh1 => ?_)
      refine ax_iconst (v := nI 1) (q := 36) B d_R_look_35 ci_1 rfl ?_
      refine ax_zret B E (by first | exact bI_or _ | decide) d_R_look_36 ?_
      exact ⟨_, rfl, hh1.2, Or.inl ⟨rfl, hh1.1⟩⟩
  refine ax_iload_n (q := 1) B d_R_look_0 rfl rfl rfl ?_
  refine ax_if_ne (q := 10) (q2 := 4) B d_R_look_1 rfl rfl (fun h1 => ?_) (fun h1 => ?_)
  · refine ax_iload_n (q := 11) B d_R_look_10 rfl rfl rfl ?_
    refine ax_if_ge (q := 18) (q2 := 14) B d_R_look_11 rfl rfl (fun h11 => ?_) (fun h11 => ?_)
    · refine ax_aload_n (q := 19) B d_R_look_18 rfl rfl rfl ?_
      refine ax_iload_n (q := 20) B d_R_look_19 rfl rfl rfl ?_
      refine ax_qV1 (q := 23) B cv_R_85 d_R_look_20 (by assumption) (Nat.le_of_ble_eq_true rfl) (by decide) (r_tableAt hG hw hk e3 hi x) rfl ?_
      first | exact tail h1 _ rfl | exact tail h1 none (pz_tabAt_neg (i32_lt h11) k (by omega))
    · refine ax_iconst (v := (-1)) (q := 15) B d_R_look_14 ci_m1 rfl ?_
      refine ax_goto (q := 23) B d_R_look_15 rfl ?_
      first | exact tail h1 _ rfl | exact tail h1 none (pz_tabAt_neg (i32_lt h11) k (by omega))
  · refine ax_aload_n (q := 5) B d_R_look_4 rfl rfl rfl ?_
    rw [if_pos h1] at E
    refine ax_pV0 (q := 8) B cv_R_82 d_R_look_5 (by assumption) (Nat.le_of_ble_eq_true rfl) (by decide) (r_lookAtHand hG hT) rfl (fun h2 hh2 => ?_)
    refine ax_iconst (v := nI 1) (q := 9) B d_R_look_8 ci_1 rfl ?_
    refine ax_zret B E (by first | exact bI_or _ | decide) d_R_look_9 ?_
    exact ⟨_, rfl, hh2.2, Or.inl ⟨rfl, hh2.1⟩⟩
theorem r_readBack {l : Launch} {G : aw_G} (hG : gr G) {h : aw_H} {k : Nat} {w : Nat → Nat} (hw : rw_ w h) (hk : k ≤ 128) (e3 : h 40 2 = nI k) (hi : iz k w) : aw_P l G 5 Y_R_readBack [.inl (some 40)] h (fun h' => rt (pz_back w k) h' ∧ ∀ q, q < 42 ∨ 50 ≤ q → h' q = h q) := by
  refine aw_met hG.1.1 (by decide) (Nat.le_of_ble_eq_true rfl) (fun M hM B E => ?_)
  show aw_X M G 3 0 [some (.inl (some 40)), none, none] [] h
  have i40 := hG.i40
  have a41 := hG.a41
  have a42 := hG.a42
  have a43 := hG.a43
  have a44 := hG.a44
  have a45 := hG.a45
  have a46 := hG.a46
  have a47 := hG.a47
  have a48 := hG.a48
  have a49 := hG.a49
  have r0 : aw_rM 40 0 = some 41 := rfl
  have r5 : aw_rM 40 5 = some 42 := rfl
  have r6 : aw_rM 40 6 = some 43 := rfl
  have r7 : aw_rM 40 7 = some 44 := rfl
  have r8 : aw_rM 40 8 = some 45 := rfl
  have r9 : aw_rM 40 9 = some 46 := rfl
  have r10 : aw_rM 40 10 = some 47 := rfl
  have r11 : aw_rM 40 11 = some 48 := rfl
  have r12 : aw_rM 40 12 = some 49 := rfl
  refine ax_aload_n (q := 1) B d_R_readBack_0 rfl rfl rfl ?_
  refine ax_qV0 (q := 4) B cv_R_92 d_R_readBack_1 (by assumption) (Nat.le_of_ble_eq_true rfl) (by decide) (r_newest hG hw hk e3 hi) rfl ?_
  unfold pz_back at E
  cases hx : pz_newest w k with
  | none =>
    rw [hx] at E
    refine ax_istore_n (q := 5) B d_R_readBack_4 rfl (by decide) rfl ?_
    refine ax_iload_n (q := 6) B d_R_readBack_5 rfl rfl rfl ?_
    refine ax_if_ge (q := 14) (q2 := 9) B d_R_readBack_6 rfl rfl (fun h6 => ?_) (fun h6 => ?_)
    · exact absurd h6 (by decide)
    · refine ax_aload_n (q := 10) B d_R_readBack_9 rfl rfl rfl ?_
      refine ax_pV0 (q := 13) B cv_R_48 d_R_readBack_10 (by assumption) (Nat.le_of_ble_eq_true rfl) (by decide) (r_empty hG h) rfl (fun h1 hh1 => ?_)
      refine ax_vret B E d_R_readBack_13 ?_
      exact ⟨rfl, hh1.1, fun q hq => hh1.2 q (by omega)⟩
  | some p =>
    rw [hx] at E
    obtain ⟨hp, hv⟩ := pz_newest_lt k hx
    show aw_X M G 3 4 [some (.inl (some 40)), none, none] [.inr (nI p)] h
    have E : aw_E M G none (fun r h' => r = none ∧ (rt (pz_read w p) h' ∧ ∀ q, q < 42 ∨ 50 ≤ q → h' q = h q)) := E
    have last : ∀ (h1 : aw_H), rs (pz_read w p) h1 → (∀ q, q < 47 ∨ 50 ≤ q → h1 q = h q) → ∀ m j (f : aw_H), j + m = 80 → (∀ i, i < 8 → f 42 i = h1 47 i ∧ f 43 i = h1 48 i ∧ f 45 i = nI 0 ∧ f 46 i = nI (pz_nm w p i) + (-1)) → (∀ y, y < j → f 44 y = h1 49 y) → (∀ q, q < 42 ∨ 47 ≤ q → f q = h1 q) → aw_X M G 3 87 [some (.inl (some 40)), some (.inr (nI p)), some (.inr (nI j))] [] f := by
      intro h1 hrs hf1 m
      induction m with
      | zero =>
        intro j f hj g1 g3 g2
        have hj : j = 80 := by omega
        subst hj
        have fin : rt (pz_read w p) f := fun i hi8 => by
          obtain ⟨b1, b2, b3, b4, b5⟩ := hrs i hi8
          obtain ⟨c1, c2, c3, c4⟩ := g1 i hi8
          exact ⟨c1.trans b1, c2.trans b2, c3, b3, b4, fun s hs => ⟨(g3 _ (by omega)).trans (b5 s hs).1, (b5 s hs).2⟩, fun _ _ => c4⟩
        have fr : ∀ q, q < 42 ∨ 50 ≤ q → f q = h q := fun q hq => (g2 q (by omega)).trans (hf1 q (by omega))
        refine ax_iload_n (q := 88) B d_R_readBack_87 rfl rfl rfl ?_
        refine ax_bipush (v := nI 80) (q := 90) B d_R_readBack_88 cb_80 rfl ?_
        refine ax_icmpN_ge (q := 111) (q2 := 93) B (by omega) (by omega) d_R_readBack_90 rfl rfl (fun h90 => ?_) (fun h90 => ?_)
        · refine ax_vret B E d_R_readBack_111 ?_
          exact ⟨rfl, fin, fr⟩
        · omega
      | succ m ih =>
        intro j f hj g1 g3 g2
        have e9 : f 49 j = h1 49 j := by rw [g2 49 (by omega)]
        refine ax_iload_n (q := 88) B d_R_readBack_87 rfl rfl rfl ?_
        refine ax_bipush (v := nI 80) (q := 90) B d_R_readBack_88 cb_80 rfl ?_
        refine ax_icmpN_ge (q := 111) (q2 := 93) B (by omega) (by omega) d_R_readBack_90 rfl rfl (fun h90 => ?_) (fun h90 => ?_)
        · omega
        · refine ax_aload_n (q := 94) B d_R_readBack_93 rfl rfl rfl ?_
          refine ax_getP (q := 97) B fl_R_19 rfl d_R_readBack_94 (by assumption) (by assumption) rfl ?_
          refine ax_iload_n (q := 98) B d_R_readBack_97 rfl rfl rfl ?_
          refine ax_aload_n (q := 99) B d_R_readBack_98 rfl rfl rfl ?_
          refine ax_getP (q := 102) B fl_R_35 rfl d_R_readBack_99 (by assumption) (by assumption) rfl ?_
          refine ax_iload_n (q := 103) B d_R_readBack_102 rfl rfl rfl ?_
          refine ax_ialdN (q := 104) B d_R_readBack_103 (by assumption) rfl (by omega) (by omega) (by first | assumption | rfl) rfl ?_
          refine ax_iastN (q := 105) B d_R_readBack_104 (by assumption) rfl (by omega) (by omega) rfl ?_
          refine ax_iincN (j := 1) (q := 108) B d_R_readBack_105 rfl ii_1 (by decide) rfl ?_
          refine ax_goto (q := 87) B d_R_readBack_108 rfl ?_
          refine ih (j + 1) _ (by omega) (fun i hi8 => ?_) (fun y hy => ?_) (fun q hq => (aw_u_ne (by omega)).trans (g2 q hq))
          · obtain ⟨b1, b2, b3, b4⟩ := g1 i hi8
            exact ⟨aw_rd (by omega) b1, aw_rd (by omega) b2, aw_rd (by omega) b3, aw_rd (by omega) b4⟩
          · by_cases hyj : y = j
            · subst hyj; exact aw_rs
            · exact aw_rd (by omega) (g3 y (by omega))
    have mid : ∀ (h1 : aw_H), rs (pz_read w p) h1 → (∀ q, q < 47 ∨ 50 ≤ q → h1 q = h q) → ∀ m j (f : aw_H), j + m = 8 → (∀ i, i < j → f 42 i = h1 47 i ∧ f 43 i = h1 48 i ∧ f 45 i = nI 0 ∧ f 46 i = nI (pz_nm w p i) + (-1)) → (∀ q, q < 42 ∨ 47 ≤ q → f q = h1 q) → aw_X M G 3 21 [some (.inl (some 40)), some (.inr (nI p)), some (.inr (nI j))] [] f := by
      intro h1 hrs hf1 m
      induction m with
      | zero =>
        intro j f hj g1 g2
        have hj : j = 8 := by omega
        subst hj
        refine ax_iload_n (q := 22) B d_R_readBack_21 rfl rfl rfl ?_
        refine ax_bipush (v := nI 8) (q := 24) B d_R_readBack_22 cb_8 rfl ?_
        refine ax_icmpN_ge (q := 85) (q2 := 27) B (by omega) (by omega) d_R_readBack_24 rfl rfl (fun h24 => ?_) (fun h24 => ?_)
        · refine ax_iconst (v := nI 0) (q := 86) B d_R_readBack_85 ci_0 rfl ?_
          refine ax_istore_n (q := 87) B d_R_readBack_86 rfl (by decide) rfl ?_
          exact last h1 hrs hf1 80 0 f rfl g1 (fun y hy => absurd hy (by omega)) g2
        · omega
      | succ m ih =>
        intro j f hj g1 g2
        obtain ⟨ej, lj⟩ := hw (16 * p + 4 + j) (by omega)
        have ej : h 41 (16 * p + 4 + j) = nI (pz_nm w p j) := ej
        have e7 : f 47 j = h1 47 j := by rw [g2 47 (by omega)]
        have e8 : aw_u f 42 j (h1 47 j) 48 j = h1 48 j := aw_rd (by omega) (by rw [g2 48 (by omega)])
        have ew : aw_u (aw_u (aw_u f 42 j (h1 47 j)) 43 j (h1 48 j)) 45 j (nI 0) 41 (16 * p + 4 + j) = nI (pz_nm w p j) := aw_rd (by omega) (aw_rd (by omega) (aw_rd (by omega) (by rw [g2 41 (by omega), hf1 41 (by omega)]; exact ej)))
        refine ax_iload_n (q := 22) B d_R_readBack_21 rfl rfl rfl ?_
        refine ax_bipush (v := nI 8) (q := 24) B d_R_readBack_22 cb_8 rfl ?_
        refine ax_icmpN_ge (q := 85) (q2 := 27) B (by omega) (by omega) d_R_readBack_24 rfl rfl (fun h24 => ?_) (fun h24 => ?_)
        · omega
        · refine ax_aload_n (q := 28) B d_R_readBack_27 rfl rfl rfl ?_
          refine ax_getP (q := 31) B fl_R_13 rfl d_R_readBack_28 (by assumption) (by assumption) rfl ?_
          refine ax_iload_n (q := 32) B d_R_readBack_31 rfl rfl rfl ?_
          refine ax_aload_n (q := 33) B d_R_readBack_32 rfl rfl rfl ?_
          refine ax_getP (q := 36) B fl_R_29 rfl d_R_readBack_33 (by assumption) (by assumption) rfl ?_
          refine ax_iload_n (q := 37) B d_R_readBack_36 rfl rfl rfl ?_
          refine ax_ialdN (q := 38) B d_R_readBack_37 (by assumption) rfl (by omega) (by omega) (by first | assumption | rfl) rfl ?_
          refine ax_iastN (q := 39) B d_R_readBack_38 (by assumption) rfl (by omega) (by omega) rfl ?_
          refine ax_aload_n (q := 40) B d_R_readBack_39 rfl rfl rfl ?_
          refine ax_getP (q := 43) B fl_R_16 rfl d_R_readBack_40 (by assumption) (by assumption) rfl ?_
          refine ax_iload_n (q := 44) B d_R_readBack_43 rfl rfl rfl ?_
          refine ax_aload_n (q := 45) B d_R_readBack_44 rfl rfl rfl ?_
          refine ax_getP (q := 48) B fl_R_32 rfl d_R_readBack_45 (by assumption) (by assumption) rfl ?_
          refine ax_iload_n (q := 49) B d_R_readBack_48 rfl rfl rfl ?_
          refine ax_ialdN (q := 50) B d_R_readBack_49 (by assumption) rfl (by omega) (by omega) (by first | assumption | rfl) rfl ?_
          refine ax_iastN (q := 51) B d_R_readBack_50 (by assumption) rfl (by omega) (by omega) rfl ?_
          refine ax_aload_n (q := 52) B d_R_readBack_51 rfl rfl rfl ?_
          refine ax_getP (q := 55) B fl_R_22 rfl d_R_readBack_52 (by assumption) (by assumption) rfl ?_
          refine ax_iload_n (q := 56) B d_R_readBack_55 rfl rfl rfl ?_
          refine ax_iconst (v := nI 0) (q := 57) B d_R_readBack_56 ci_0 rfl ?_
          refine ax_zastN (q := 58) B d_R_readBack_57 (by assumption) rfl (by omega) (by omega) (by first | exact bI_or _ | decide) rfl ?_
          refine ax_aload_n (q := 59) B d_R_readBack_58 rfl rfl rfl ?_
          refine ax_getP (q := 62) B fl_R_26 rfl d_R_readBack_59 (by assumption) (by assumption) rfl ?_
          refine ax_iload_n (q := 63) B d_R_readBack_62 rfl rfl rfl ?_
          refine ax_aload_n (q := 64) B d_R_readBack_63 rfl rfl rfl ?_
          refine ax_getP (q := 67) B fl_R_7 rfl d_R_readBack_64 (by assumption) (by assumption) rfl ?_
          refine ax_bipush (v := nI 16) (q := 69) B d_R_readBack_67 cb_16 rfl ?_
          refine ax_iload_n (q := 70) B d_R_readBack_69 rfl rfl rfl ?_
          first | refine ax_imulN (q := 71) B d_R_readBack_70 rfl ?_ | refine ax_imul (q := 71) B d_R_readBack_70 rfl ?_
          refine ax_iconst (v := nI 4) (q := 72) B d_R_readBack_71 ci_4 rfl ?_
          first | refine ax_iaddN (q := 73) B d_R_readBack_72 rfl ?_ | refine ax_iadd (q := 73) B d_R_readBack_72 rfl ?_
          refine ax_iload_n (q := 74) B d_R_readBack_73 rfl rfl rfl ?_
          first | refine ax_iaddN (q := 75) B d_R_readBack_74 rfl ?_ | refine ax_iadd (q := 75) B d_R_readBack_74 rfl ?_
          refine ax_ialdN (q := 76) B d_R_readBack_75 (by assumption) rfl (by omega) (by omega) ew rfl ?_
          refine ax_iconst (v := nI 1) (q := 77) B d_R_readBack_76 ci_1 rfl ?_
          refine ax_isub (q := 78) B d_R_readBack_77 rfl ?_
          refine ax_top (show nI (pz_nm w p j) - nI 1 = nI (pz_nm w p j) + (-1) from Int32.sub_eq_add_neg _ _) ?_
          refine ax_iastN (q := 79) B d_R_readBack_78 (by assumption) rfl (by omega) (by omega) rfl ?_
          refine ax_iincN (j := 1) (q := 82) B d_R_readBack_79 rfl ii_1 (by decide) rfl ?_
          refine ax_goto (q := 21) B d_R_readBack_82 rfl ?_
          refine ih (j + 1) _ (by omega) (fun i hi8 => ?_) (fun q hq => by rw [aw_u_ne (by omega), aw_u_ne (by omega), aw_u_ne (by omega), aw_u_ne (by omega)]; exact g2 q hq)
          by_cases hij : i = j
          · subst hij
            exact ⟨aw_rd (by omega) (aw_rd (by omega) (aw_rd (by omega) aw_rs)), aw_rd (by omega) (aw_rd (by omega) aw_rs), aw_rd (by omega) aw_rs, aw_rs⟩
          · obtain ⟨b1, b2, b3, b4⟩ := g1 i (by omega)
            exact ⟨aw_rd (by omega) (aw_rd (by omega) (aw_rd (by omega) (aw_rd (by omega) b1))), aw_rd (by omega) (aw_rd (by omega) (aw_rd (by omega) (aw_rd (by omega) b2))), aw_rd (by omega) (aw_rd (by omega) (aw_rd (by omega) (aw_rd (by omega) b3))), aw_rd (by omega) (aw_rd (by omega) (aw_rd (by omega) (aw_rd (by omega) b4)))⟩
    refine ax_istore_n (q := 5) B d_R_readBack_4 rfl (by decide) rfl ?_
    refine ax_iload_n (q := 6) B d_R_readBack_5 rfl rfl rfl ?_
    refine ax_ifN_ge (q := 14) (q2 := 9) B (by omega) d_R_readBack_6 rfl rfl ?_
    refine ax_aload_n (q := 15) B d_R_readBack_14 rfl rfl rfl ?_
    refine ax_iload_n (q := 16) B d_R_readBack_15 rfl rfl rfl ?_
    refine ax_pV1 (q := 19) B cv_R_88 d_R_readBack_16 (by assumption) (Nat.le_of_ble_eq_true rfl) (by decide) (r_lookAtTable hG hw (hi.rz2 hk hp (pz_valid_3 hv))) rfl (fun h1 hh1 => ?_)
    refine ax_iconst (v := nI 0) (q := 20) B d_R_readBack_19 ci_0 rfl ?_
    refine ax_istore_n (q := 21) B d_R_readBack_20 rfl (by decide) rfl ?_
    exact mid h1 hh1.1 hh1.2 8 0 h1 rfl (fun i hi8 => absurd hi8 (by omega)) (fun q hq => rfl)
