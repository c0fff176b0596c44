/- THE REFERENCE at place 40; its arrays at 41 .. 51 -/
def gr (G : aw_G) : Prop := gz G ∧ 52 ≤ aw_N G
theorem gr.i40 {G : aw_G} (h : gr G) : aw_is G 40 4 := ⟨by have := h.2; omega, rfl⟩
theorem gr.a41 {G : aw_G} (h : gr G) : aw_ar G 41 0 2048 := ⟨by have := h.2; omega, rfl⟩
theorem gr.a42 {G : aw_G} (h : gr G) : aw_ar G 42 0 8 := ⟨by have := h.2; omega, rfl⟩
theorem gr.a43 {G : aw_G} (h : gr G) : aw_ar G 43 0 8 := ⟨by have := h.2; omega, rfl⟩
theorem gr.a44 {G : aw_G} (h : gr G) : aw_ar G 44 0 80 := ⟨by have := h.2; omega, rfl⟩
theorem gr.a45 {G : aw_G} (h : gr G) : aw_ar G 45 1 8 := ⟨by have := h.2; omega, rfl⟩
theorem gr.a46 {G : aw_G} (h : gr G) : aw_ar G 46 0 8 := ⟨by have := h.2; omega, rfl⟩
theorem gr.a47 {G : aw_G} (h : gr G) : aw_ar G 47 0 8 := ⟨by have := h.2; omega, rfl⟩
theorem gr.a48 {G : aw_G} (h : gr G) : aw_ar G 48 0 8 := ⟨by have := h.2; omega, rfl⟩
theorem gr.a49 {G : aw_G} (h : gr G) : aw_ar G 49 0 80 := ⟨by have := h.2; omega, rfl⟩
theorem gr.a50 {G : aw_G} (h : gr G) : aw_ar G 50 0 16 := ⟨by have := h.2; omega, rfl⟩
theorem gr.a51 {G : aw_G} (h : gr G) : aw_ar G 51 1 8 := ⟨by have := h.2; omega, rfl⟩
/-- the reference's words -/
def rw_ (w : Nat → Nat) (h : aw_H) : Prop := ∀ x, x < 2048 → h 41 x = nI (w x) ∧ w x < 65536
set_option maxHeartbeats 1000000 in
theorem r_step {l : Launch} {G : aw_G} (hG : aw_ok G) (h : aw_H) {c o : Nat} (hc : c < 65536) (ho : o < 256) : aw_I l G 0 Y_R_step [.inr (nI c), .inr (nI o)] h (.inr (nI (pz_byte c o))) := by
  refine aw_met hG (by decide) (Nat.le_of_ble_eq_true rfl) (fun M hM B E => ?_)
  show aw_X M G 4 0 [some (.inr (nI c)), some (.inr (nI o)), none, none] [] h
  have hb0 : c ^^^ 256 * o < 65536 := pz_xor_lt (j := 16) (by omega) (by omega)
  have loop : ∀ m j, j + m = 8 → aw_X M G 4 10 [some (.inr (nI c)), some (.inr (nI o)), some (.inr (nI (pz_bits j (c ^^^ 256 * o)))), some (.inr (nI j))] [] h := by
    intro m
    induction m with
    | zero =>
      intro j hj
      have hj : j = 8 := by omega
      subst hj
      refine ax_iload_n (q := 11) B d_R_step_10 rfl rfl rfl ?_
      refine ax_bipush (v := nI 8) (q := 13) B d_R_step_11 cb_8 rfl ?_
      refine ax_icmpN_ge (q := 45) (q2 := 16) B (by omega) (by omega) d_R_step_13 rfl rfl (fun h13 => ?_) (fun h13 => ?_)
      · refine ax_iload_n (q := 46) B d_R_step_45 rfl rfl rfl ?_
        refine ax_iret B E d_R_step_46 ?_
        exact ⟨rfl, rfl⟩
      · omega
    | succ m ih =>
      intro j hj
      have hb := pz_bits_lt hb0 j
      have hs : pz_bits (j + 1) (c ^^^ 256 * o) = pz_bit (pz_bits j (c ^^^ 256 * o)) := rfl
      generalize pz_bits j (c ^^^ 256 * o) = x at hb hs ⊢
      refine ax_iload_n (q := 11) B d_R_step_10 rfl rfl rfl ?_
      refine ax_bipush (v := nI 8) (q := 13) B d_R_step_11 cb_8 rfl ?_
      refine ax_icmpN_ge (q := 45) (q2 := 16) B (by omega) (by omega) d_R_step_13 rfl rfl (fun h13 => ?_) (fun h13 => ?_)
      · omega
      · refine ax_iload_n (q := 17) B d_R_step_16 rfl rfl rfl ?_
        refine ax_ldc (v := nI 32768) (q := 19) B wc_R_51 d_R_step_17 rfl ?_
        refine ax_icmpN_ge (q := 28) (q2 := 22) B (by omega) (by omega) d_R_step_19 rfl rfl (fun h19 => ?_) (fun h19 => ?_)
        · refine ax_iconst (v := nI 2) (q := 29) B d_R_step_28 ci_2 rfl ?_
          refine ax_iload_n (q := 30) B d_R_step_29 rfl rfl rfl ?_
          first | refine ax_imulN (q := 31) B d_R_step_30 rfl ?_ | refine ax_imul (q := 31) B d_R_step_30 rfl ?_
          refine ax_ldc (v := nI 65536) (q := 33) B wc_R_52 d_R_step_31 rfl ?_
          first | refine ax_isubN (q := 34) B (by omega) d_R_step_33 rfl ?_ | refine ax_isub (q := 34) B d_R_step_33 rfl ?_
          refine ax_sipush (v := nI 4129) (q := 37) B d_R_step_34 cs_4129 rfl ?_
          first | refine ax_ixorN (q := 38) B d_R_step_37 rfl ?_ | refine ax_ixor (q := 38) B d_R_step_37 rfl ?_
          refine ax_istore_n (q := 39) B d_R_step_38 rfl (by decide) rfl ?_
          refine ax_iincN (j := 1) (q := 42) B d_R_step_39 rfl ii_1 (by decide) rfl ?_
          refine ax_goto (q := 10) B d_R_step_42 rfl ?_
          have h3 := ih (j + 1) (by omega)
          rw [hs, pz_bit] at h3
          first | (rw [if_pos (by omega)] at h3; exact h3) | (rw [if_neg (by omega)] at h3; exact h3)
        · refine ax_iconst (v := nI 2) (q := 23) B d_R_step_22 ci_2 rfl ?_
          refine ax_iload_n (q := 24) B d_R_step_23 rfl rfl rfl ?_
          first | refine ax_imulN (q := 25) B d_R_step_24 rfl ?_ | refine ax_imul (q := 25) B d_R_step_24 rfl ?_
          refine ax_goto (q := 38) B d_R_step_25 rfl ?_
          refine ax_istore_n (q := 39) B d_R_step_38 rfl (by decide) rfl ?_
          refine ax_iincN (j := 1) (q := 42) B d_R_step_39 rfl ii_1 (by decide) rfl ?_
          refine ax_goto (q := 10) B d_R_step_42 rfl ?_
          have h3 := ih (j + 1) (by omega)
          rw [hs, pz_bit] at h3
          first | (rw [if_pos (by omega)] at h3; exact h3) | (rw [if_neg (by omega)] at h3; exact h3)
  refine ax_iload_n (q := 1) B d_R_step_0 rfl rfl rfl ?_
  refine ax_sipush (v := nI 256) (q := 4) B d_R_step_1 cs_256 rfl ?_
  refine ax_iload_n (q := 5) B d_R_step_4 rfl rfl rfl ?_
  first | refine ax_imulN (q := 6) B d_R_step_5 rfl ?_ | refine ax_imul (q := 6) B d_R_step_5 rfl ?_
  first | refine ax_ixorN (q := 7) B d_R_step_6 rfl ?_ | refine ax_ixor (q := 7) B d_R_step_6 rfl ?_
  refine ax_istore_n (q := 8) B d_R_step_7 rfl (by decide) rfl ?_
  refine ax_iconst (v := nI 0) (q := 9) B d_R_step_8 ci_0 rfl ?_
  refine ax_istore_n (q := 10) B d_R_step_9 rfl (by decide) rfl ?_
  exact loop 8 0 rfl
set_option maxHeartbeats 1000000 in
theorem r_checkOf {l : Launch} {G : aw_G} (hG : gr G) {h : aw_H} {p : Nat} (hp : p < 128) {f : Nat → Nat} (hf : ∀ i, i < 16 → h 41 (16 * p + i) = nI (f i) ∧ f i < 2 ^ 31) : aw_I l G 1 Y_R_checkOf [.inl (some 40), .inr (nI p)] h (.inr (nI (pz_chkN f 16))) := by
  refine aw_met hG.1.1 (by decide) (Nat.le_of_ble_eq_true rfl) (fun M hM B E => ?_)
  show aw_X M G 6 0 [some (.inl (some 40)), some (.inr (nI p)), none, none, none, none] [] h
  have i40 := hG.i40
  have a41 := hG.a41
  have r0 : aw_rM 40 0 = some 41 := rfl
  have hm : ∀ x : Nat, x % 2 ^ 8 < 256 := fun x => Nat.mod_lt _ (by omega)
  have step : ∀ (i x v j : Nat) (s : Int32), i ≠ 1 → i < 16 → v < 2 ^ 31 → x < 65536 → j ≤ 24 → s = nI j → ((s &&& 31).toBitVec.smod 32).toNat = j → aw_X M G 6 52 [some (.inl (some 40)), some (.inr (nI p)), some (.inr (nI (pz_byte x (v / 2 ^ j % 2 ^ 8)))), some (.inr (nI i)), some (.inr (nI v)), some (.inr s)] [] h → aw_X M G 6 28 [some (.inl (some 40)), some (.inr (nI p)), some (.inr (nI x)), some (.inr (nI i)), some (.inr (nI v)), some (.inr s)] [] h := by
    intro i x v j s hi1 hi16 hv hx hj hs hs2 K
    have hvj : v / 2 ^ j < 2 ^ 32 := Nat.lt_of_le_of_lt (Nat.div_le_self _ _) (by omega)
    refine ax_iload (q := 30) B d_R_checkOf_28 rfl rfl ?_
    refine ax_top hs ?_
    refine ax_ifN_lt (q := 58) (q2 := 33) B (by omega) d_R_checkOf_30 rfl rfl ?_
    refine ax_iload_n (q := 34) B d_R_checkOf_33 rfl rfl rfl ?_
    refine ax_iconst (v := nI 1) (q := 35) B d_R_checkOf_34 ci_1 rfl ?_
    refine ax_icmpN_eq (q := 58) (q2 := 38) B (by omega) (by omega) d_R_checkOf_35 rfl rfl (fun h35 => ?_) (fun h35 => ?_)
    · omega
    · refine ax_iload_n (q := 39) B d_R_checkOf_38 rfl rfl rfl ?_
      refine ax_iload (q := 41) B d_R_checkOf_39 rfl rfl ?_
      refine ax_iload (q := 43) B d_R_checkOf_41 rfl rfl ?_
      refine ax_ishrN (q := 44) B j (by omega) hs2 d_R_checkOf_43 rfl ?_
      refine ax_sipush (v := nI 255) (q := 47) B d_R_checkOf_44 cs_255 rfl ?_
      refine ax_iandN (q := 48) B 8 (by omega) (by decide) d_R_checkOf_47 rfl ?_
      refine ax_qS2 (q := 51) B cv_R_54 d_R_checkOf_48 (Nat.le_of_ble_eq_true rfl) (by decide) (r_step hG.1.1 h hx (hm _)) rfl ?_
      refine ax_istore_n (q := 52) B d_R_checkOf_51 rfl (by decide) rfl ?_
      exact K
  have loop : ∀ m j (u1 u2 : Option aw_V), j + m = 16 → aw_X M G 6 5 [some (.inl (some 40)), some (.inr (nI p)), some (.inr (nI (pz_chkN f j))), some (.inr (nI j)), u1, u2] [] h := by
    intro m
    induction m with
    | zero =>
      intro j u1 u2 hj
      have hj : j = 16 := by omega
      subst hj
      generalize pz_chkN f 16 = x at E ⊢
      refine ax_iload_n (q := 6) B d_R_checkOf_5 rfl rfl rfl ?_
      refine ax_bipush (v := nI 16) (q := 8) B d_R_checkOf_6 cb_16 rfl ?_
      refine ax_icmpN_ge (q := 64) (q2 := 11) B (by omega) (by omega) d_R_checkOf_8 rfl rfl (fun h8 => ?_) (fun h8 => ?_)
      · refine ax_iload_n (q := 65) B d_R_checkOf_64 rfl rfl rfl ?_
        refine ax_iret B E d_R_checkOf_65 ?_
        exact ⟨rfl, rfl⟩
      · omega
    | succ m ih =>
      intro j u1 u2 hj
      obtain ⟨ej, hfj⟩ := hf j (by omega)
      have h3 := ih (j + 1)
      have hc := pz_chkN_lt f j
      rw [show pz_chkN f (j + 1) = if j = 1 then pz_chkN f j else pz_crcw (pz_chkN f j) (f j) from rfl] at h3
      generalize pz_chkN f j = x at hc h3 ⊢
      generalize f j = v at ej hfj h3
      have fin : ∀ (y : Nat) (s : Int32), (if j = 1 then x else pz_crcw x v) = y → aw_X M G 6 58 [some (.inl (some 40)), some (.inr (nI p)), some (.inr (nI y)), some (.inr (nI j)), some (.inr (nI v)), some (.inr s)] [] h := by
        intro y s hy
        rw [hy] at h3
        refine ax_iincN (j := 1) (q := 61) B d_R_checkOf_58 rfl ii_1 (by decide) rfl ?_
        refine ax_goto (q := 5) B d_R_checkOf_61 rfl ?_
        exact h3 _ _ (by omega)
      have start : aw_X M G 6 28 [some (.inl (some 40)), some (.inr (nI p)), some (.inr (nI x)), some (.inr (nI j)), some (.inr (nI v)), some (.inr (nI 24))] [] h := by
        by_cases hj1 : j = 1
        · refine ax_iload (q := 30) B d_R_checkOf_28 rfl rfl ?_
          refine ax_ifN_lt (q := 58) (q2 := 33) B (by omega) d_R_checkOf_30 rfl rfl ?_
          refine ax_iload_n (q := 34) B d_R_checkOf_33 rfl rfl rfl ?_
          refine ax_iconst (v := nI 1) (q := 35) B d_R_checkOf_34 ci_1 rfl ?_
          refine ax_icmpN_eq (q := 58) (q2 := 38) B (by omega) (by omega) d_R_checkOf_35 rfl rfl (fun h35 => ?_) (fun h35 => ?_)
          · exact fin x _ (if_pos hj1)
          · omega
        · have h1 := pz_byte_lt hc (hm (v / 2 ^ 24))
          have h2 := pz_byte_lt h1 (hm (v / 2 ^ 16))
          have h4 := pz_byte_lt h2 (hm (v / 2 ^ 8))
          refine step j x v 24 (nI 24) hj1 (by omega) hfj hc (by omega) rfl (by decide) ?_
          refine ax_iinc (v := nI 16) (q := 55) B d_R_checkOf_52 rfl (by decide) (by decide) rfl ?_
          refine ax_goto (q := 28) B d_R_checkOf_55 rfl ?_
          refine step j _ v 16 (nI 16) hj1 (by omega) hfj h1 (by omega) rfl (by decide) ?_
          refine ax_iinc (v := nI 8) (q := 55) B d_R_checkOf_52 rfl (by decide) (by decide) rfl ?_
          refine ax_goto (q := 28) B d_R_checkOf_55 rfl ?_
          refine step j _ v 8 (nI 8) hj1 (by omega) hfj h2 (by omega) rfl (by decide) ?_
          refine ax_iinc (v := nI 0) (q := 55) B d_R_checkOf_52 rfl (by decide) (by decide) rfl ?_
          refine ax_goto (q := 28) B d_R_checkOf_55 rfl ?_
          refine step j _ v 0 (nI 0) hj1 (by omega) hfj h4 (by omega) rfl (by decide) ?_
          refine ax_iinc (v := -8) (q := 55) B d_R_checkOf_52 rfl (by decide) (by decide) rfl ?_
          refine ax_goto (q := 28) B d_R_checkOf_55 rfl ?_
          refine ax_iload (q := 30) B d_R_checkOf_28 rfl rfl ?_
          refine ax_if_lt (q := 58) (q2 := 33) B d_R_checkOf_30 rfl rfl (fun h30 => ?_) (fun h30 => ?_)
          · exact fin _ _ (if_neg hj1)
          · exact absurd (by decide) h30
      refine ax_iload_n (q := 6) B d_R_checkOf_5 rfl rfl rfl ?_
      refine ax_bipush (v := nI 16) (q := 8) B d_R_checkOf_6 cb_16 rfl ?_
      refine ax_icmpN_ge (q := 64) (q2 := 11) B (by omega) (by omega) d_R_checkOf_8 rfl rfl (fun h8 => ?_) (fun h8 => ?_)
      · omega
      · refine ax_aload_n (q := 12) B d_R_checkOf_11 rfl rfl rfl ?_
        refine ax_getP (q := 15) B fl_R_7 rfl d_R_checkOf_12 (by assumption) (by assumption) rfl ?_
        refine ax_bipush (v := nI 16) (q := 17) B d_R_checkOf_15 cb_16 rfl ?_
        refine ax_iload_n (q := 18) B d_R_checkOf_17 rfl rfl rfl ?_
        first | refine ax_imulN (q := 19) B d_R_checkOf_18 rfl ?_ | refine ax_imul (q := 19) B d_R_checkOf_18 rfl ?_
        refine ax_iload_n (q := 20) B d_R_checkOf_19 rfl rfl rfl ?_
        first | refine ax_iaddN (q := 21) B d_R_checkOf_20 rfl ?_ | refine ax_iadd (q := 21) B d_R_checkOf_20 rfl ?_
        refine ax_ialdN (q := 22) B d_R_checkOf_21 (by assumption) rfl (by omega) (by omega) ej rfl ?_
        refine ax_istore (q := 24) B d_R_checkOf_22 (by decide) rfl ?_
        refine ax_bipush (v := nI 24) (q := 26) B d_R_checkOf_24 cb_24 rfl ?_
        refine ax_istore (q := 28) B d_R_checkOf_26 (by decide) rfl ?_
        exact start
  refine ax_ldc (v := nI 65535) (q := 2) B wc_R_53 d_R_checkOf_0 rfl ?_
  refine ax_istore_n (q := 3) B d_R_checkOf_2 rfl (by decide) rfl ?_
  refine ax_iconst (v := nI 0) (q := 4) B d_R_checkOf_3 ci_0 rfl ?_
  refine ax_istore_n (q := 5) B d_R_checkOf_4 rfl (by decide) rfl ?_
  exact loop 16 0 none none rfl
theorem r_isGood {l : Launch} {G : aw_G} (hG : gr G) {h : aw_H} {w : Nat → Nat} (hw : rw_ w h) {p : Nat} (hp : p < 128) : aw_I l G 2 Y_R_isGood [.inl (some 40), .inr (nI p)] h (.inr (bI (pz_good w p))) := by
  refine aw_met hG.1.1 (by decide) (Nat.le_of_ble_eq_true rfl) (fun M hM B E => ?_)
  show aw_X M G 3 0 [some (.inl (some 40)), some (.inr (nI p)), none] [] h
  have i40 := hG.i40
  have a41 := hG.a41
  have r0 : aw_rM 40 0 = some 41 := rfl
  have hC : aw_I M.2.1 G 1 Y_R_checkOf [.inl (some 40), .inr (nI p)] h (.inr (nI (pz_chk w p))) := r_checkOf hG hp (f := fun i => w (16 * p + i)) (fun i hi => ⟨(hw _ (by omega)).1, by have := (hw (16 * p + i) (by omega)).2; omega⟩)
  obtain ⟨e1, l1⟩ := hw (16 * p + 1) (by omega)
  have hcl := pz_chk_lt w p
  have hgd : pz_good w p = (w (16 * p + 1) == pz_chk w p) := rfl
  rw [hgd] at E
  generalize pz_chk w p = c at hC hcl E
  refine ax_aload_n (q := 1) B d_R_isGood_0 rfl rfl rfl ?_
  refine ax_iload_n (q := 2) B d_R_isGood_1 rfl rfl rfl ?_
  refine ax_qV1 (q := 5) B cv_R_58 d_R_isGood_2 (by assumption) (Nat.le_of_ble_eq_true rfl) (by decide) hC rfl ?_
  refine ax_istore_n (q := 6) B d_R_isGood_5 rfl (by decide) rfl ?_
  refine ax_aload_n (q := 7) B d_R_isGood_6 rfl rfl rfl ?_
  refine ax_getP (q := 10) B fl_R_7 rfl d_R_isGood_7 (by assumption) (by assumption) rfl ?_
  refine ax_bipush (v := nI 16) (q := 12) B d_R_isGood_10 cb_16 rfl ?_
  refine ax_iload_n (q := 13) B d_R_isGood_12 rfl rfl rfl ?_
  first | refine ax_imulN (q := 14) B d_R_isGood_13 rfl ?_ | refine ax_imul (q := 14) B d_R_isGood_13 rfl ?_
  refine ax_iconst (v := nI 1) (q := 15) B d_R_isGood_14 ci_1 rfl ?_
  first | refine ax_iaddN (q := 16) B d_R_isGood_15 rfl ?_ | refine ax_iadd (q := 16) B d_R_isGood_15 rfl ?_
  refine ax_ialdN (q := 17) B d_R_isGood_16 (by assumption) rfl (by omega) (by omega) e1 rfl ?_
  refine ax_iload_n (q := 18) B d_R_isGood_17 rfl rfl rfl ?_
  refine ax_icmpN_ne (q := 25) (q2 := 21) B (by omega) (by omega) d_R_isGood_18 rfl rfl (fun h18 => ?_) (fun h18 => ?_)
  · refine ax_iconst (v := nI 0) (q := 26) B d_R_isGood_25 ci_0 rfl ?_
    refine ax_zret B E (by first | exact bI_or _ | decide) d_R_isGood_26 ?_
    first | exact ⟨by rw [pz_beq_ne h18]; rfl, rfl⟩ | exact ⟨by rw [h18, beq_self_eq_true]; rfl, rfl⟩
  · refine ax_iconst (v := nI 1) (q := 22) B d_R_isGood_21 ci_1 rfl ?_
    refine ax_goto (q := 26) B d_R_isGood_22 rfl ?_
    refine ax_zret B E (by first | exact bI_or _ | decide) d_R_isGood_26 ?_
    first | exact ⟨by rw [pz_beq_ne h18]; rfl, rfl⟩ | exact ⟨by rw [h18, beq_self_eq_true]; rfl, rfl⟩
theorem r_isValid {l : Launch} {G : aw_G} (hG : gr G) {h : aw_H} {w : Nat → Nat} (hw : rw_ w h) {k : Nat} (hk : k ≤ 128) (hi : iz k w) {p : Nat} (hp : p < k) : aw_I l G 3 Y_R_isValid [.inl (some 40), .inr (nI p)] h (.inr (bI (pz_valid w p))) := by
  refine aw_met hG.1.1 (by decide) (Nat.le_of_ble_eq_true rfl) (fun M hM B E => ?_)
  show aw_X M G 4 0 [some (.inl (some 40)), some (.inr (nI p)), none, none] [] h
  have i40 := hG.i40
  have a41 := hG.a41
  have r0 : aw_rM 40 0 = some 41 := rfl
  obtain ⟨e0, l0⟩ := hw (16 * p) (by omega)
  have loop : w (16 * p) = 3 → pz_good w p = true → ∀ m j (u : Option aw_V), j + m = 8 → pz_ents w p j = true → aw_X M G 4 25 [some (.inl (some 40)), some (.inr (nI p)), some (.inr (nI j)), u] [] h := by
    intro h3 hg m
    have hv : pz_valid w p = pz_ents w p 8 := by unfold pz_valid; rw [h3, hg]; simp
    rw [hv] at E
    induction m with
    | zero =>
      intro j u hj hz
      have hj : j = 8 := by omega
      subst hj
      refine ax_iload_n (q := 26) B d_R_isValid_25 rfl rfl rfl ?_
      refine ax_bipush (v := nI 8) (q := 28) B d_R_isValid_26 cb_8 rfl ?_
      refine ax_icmpN_ge (q := 67) (q2 := 31) B (by omega) (by omega) d_R_isValid_28 rfl rfl (fun h28 => ?_) (fun h28 => ?_)
      · refine ax_iconst (v := nI 1) (q := 68) B d_R_isValid_67 ci_1 rfl ?_
        refine ax_zret B E (by first | exact bI_or _ | decide) d_R_isValid_68 ?_
        exact ⟨by rw [hz]; rfl, rfl⟩
      · omega
    | succ m ih =>
      intro j u hj hz
      obtain ⟨hn, -⟩ := hi p hp h3 j (by omega)
      obtain ⟨ej, lj⟩ := hw (16 * p + 4 + j) (by omega)
      have ej : h 41 (16 * p + 4 + j) = nI (pz_nm w p j) := ej
      have hs : pz_ents w p (j + 1) = (pz_nm w p j == 0 || pz_good w (pz_nm w p j - 1)) := by
        show (pz_ents w p j && _) = _
        rw [hz, Bool.true_and]
      refine ax_iload_n (q := 26) B d_R_isValid_25 rfl rfl rfl ?_
      refine ax_bipush (v := nI 8) (q := 28) B d_R_isValid_26 cb_8 rfl ?_
      refine ax_icmpN_ge (q := 67) (q2 := 31) B (by omega) (by omega) d_R_isValid_28 rfl rfl (fun h28 => ?_) (fun h28 => ?_)
      · omega
      · refine ax_aload_n (q := 32) B d_R_isValid_31 rfl rfl rfl ?_
        refine ax_getP (q := 35) B fl_R_7 rfl d_R_isValid_32 (by assumption) (by assumption) rfl ?_
        refine ax_bipush (v := nI 16) (q := 37) B d_R_isValid_35 cb_16 rfl ?_
        refine ax_iload_n (q := 38) B d_R_isValid_37 rfl rfl rfl ?_
        first | refine ax_imulN (q := 39) B d_R_isValid_38 rfl ?_ | refine ax_imul (q := 39) B d_R_isValid_38 rfl ?_
        refine ax_iconst (v := nI 4) (q := 40) B d_R_isValid_39 ci_4 rfl ?_
        first | refine ax_iaddN (q := 41) B d_R_isValid_40 rfl ?_ | refine ax_iadd (q := 41) B d_R_isValid_40 rfl ?_
        refine ax_iload_n (q := 42) B d_R_isValid_41 rfl rfl rfl ?_
        first | refine ax_iaddN (q := 43) B d_R_isValid_42 rfl ?_ | refine ax_iadd (q := 43) B d_R_isValid_42 rfl ?_
        refine ax_ialdN (q := 44) B d_R_isValid_43 (by assumption) rfl (by omega) (by omega) ej rfl ?_
        refine ax_istore_n (q := 45) B d_R_isValid_44 rfl (by decide) rfl ?_
        refine ax_iload_n (q := 46) B d_R_isValid_45 rfl rfl rfl ?_
        refine ax_ifN_le (q := 61) (q2 := 49) B (by omega) d_R_isValid_46 rfl rfl (fun h46 => ?_) (fun h46 => ?_)
        · refine ax_iincN (j := 1) (q := 64) B d_R_isValid_61 rfl ii_1 (by decide) rfl ?_
          refine ax_goto (q := 25) B d_R_isValid_64 rfl ?_
          refine ih (j + 1) _ (by omega) ?_
          rw [hs]
          first | (rw [h56]; simp; done) | (rw [h46]; simp)
        · refine ax_aload_n (q := 50) B d_R_isValid_49 rfl rfl rfl ?_
          refine ax_iload_n (q := 51) B d_R_isValid_50 rfl rfl rfl ?_
          refine ax_iconst (v := nI 1) (q := 52) B d_R_isValid_51 ci_1 rfl ?_
          refine ax_isubN (q := 53) B (by omega) d_R_isValid_52 rfl ?_
          refine ax_qV1 (q := 56) B cv_R_62 d_R_isValid_53 (by assumption) (Nat.le_of_ble_eq_true rfl) (by decide) (r_isGood hG hw (by omega)) rfl ?_
          refine ax_ifZ_ne (q := 61) (q2 := 59) B d_R_isValid_56 rfl rfl (fun h56 => ?_) (fun h56 => ?_)
          · refine ax_iincN (j := 1) (q := 64) B d_R_isValid_61 rfl ii_1 (by decide) rfl ?_
            refine ax_goto (q := 25) B d_R_isValid_64 rfl ?_
            refine ih (j + 1) _ (by omega) ?_
            rw [hs]
            first | (rw [h56]; simp; done) | (rw [h46]; simp)
          · refine ax_iconst (v := nI 0) (q := 60) B d_R_isValid_59 ci_0 rfl ?_
            refine ax_zret B E (by first | exact bI_or _ | decide) d_R_isValid_60 ?_
            exact ⟨by rw [show (8 : Nat) = j + 1 + m by omega, pz_ents_f (by rw [hs, h56, pz_beq_ne (by omega)]; rfl) m]; rfl, rfl⟩
  refine ax_aload_n (q := 1) B d_R_isValid_0 rfl rfl rfl ?_
  refine ax_getP (q := 4) B fl_R_7 rfl d_R_isValid_1 (by assumption) (by assumption) rfl ?_
  refine ax_bipush (v := nI 16) (q := 6) B d_R_isValid_4 cb_16 rfl ?_
  refine ax_iload_n (q := 7) B d_R_isValid_6 rfl rfl rfl ?_
  first | refine ax_imulN (q := 8) B d_R_isValid_7 rfl ?_ | refine ax_imul (q := 8) B d_R_isValid_7 rfl ?_
  refine ax_ialdN (q := 9) B d_R_isValid_8 (by assumption) rfl (by omega) (by omega) e0 rfl ?_
  refine ax_iconst (v := nI 3) (q := 10) B d_R_isValid_9 ci_3 rfl ?_
  refine ax_icmpN_ne (q := 21) (q2 := 13) B (by omega) (by omega) d_R_isValid_10 rfl rfl (fun h10 => ?_) (fun h10 => ?_)
  · refine ax_iconst (v := nI 0) (q := 22) B d_R_isValid_21 ci_0 rfl ?_
    refine ax_zret B E (by first | exact bI_or _ | decide) d_R_isValid_22 ?_
    first | exact ⟨by unfold pz_valid; rw [h18]; simp; rfl, rfl⟩ | exact ⟨by unfold pz_valid; rw [show (w (16 * p) == 3) = false from pz_beq_ne h10]; rfl, rfl⟩
  · refine ax_aload_n (q := 14) B d_R_isValid_13 rfl rfl rfl ?_
    refine ax_iload_n (q := 15) B d_R_isValid_14 rfl rfl rfl ?_
    refine ax_qV1 (q := 18) B cv_R_62 d_R_isValid_15 (by assumption) (Nat.le_of_ble_eq_true rfl) (by decide) (r_isGood hG hw (by omega)) rfl ?_
    refine ax_ifZ_ne (q := 23) (q2 := 21) B d_R_isValid_18 rfl rfl (fun h18 => ?_) (fun h18 => ?_)
    · refine ax_iconst (v := nI 0) (q := 24) B d_R_isValid_23 ci_0 rfl ?_
      refine ax_istore_n (q := 25) B d_R_isValid_24 rfl (by decide) rfl ?_
      exact loop h10 h18 8 0 _ rfl rfl
    · refine ax_iconst (v := nI 0) (q := 22) B d_R_isValid_21 ci_0 rfl ?_
      refine ax_zret B E (by first | exact bI_or _ | decide) d_R_isValid_22 ?_
      first | exact ⟨by unfold pz_valid; rw [h18]; simp; rfl, rfl⟩ | exact ⟨by unfold pz_valid; rw [show (w (16 * p) == 3) = false from pz_beq_ne h10]; rfl, rfl⟩
theorem r_newest {l : Launch} {G : aw_G} (hG : gr G) {h : aw_H} {k : Nat} {w : Nat → Nat} (hw : rw_ w h) (hk : k ≤ 128) (e3 : h 40 2 = nI k) (hi : iz k w) : aw_I l G 4 Y_R_newest [.inl (some 40)] h (.inr (oI (pz_newest w k))) := by
  refine aw_met hG.1.1 (by decide) (Nat.le_of_ble_eq_true rfl) (fun M hM B E => ?_)
  show aw_X M G 2 0 [some (.inl (some 40)), none] [] h
  have i40 := hG.i40
  have loop : ∀ j, j ≤ k → pz_newest w k = pz_newest w j → aw_X M G 2 7 [some (.inl (some 40)), some (.inr (nI j + (-1)))] [] h := by
    intro j
    induction j with
    | zero =>
      intro _ he
      rw [he] at E
      refine ax_iload_n (q := 8) B d_R_newest_7 rfl rfl rfl ?_
      refine ax_if_lt (q := 27) (q2 := 11) B d_R_newest_8 rfl rfl (fun h8 => ?_) (fun h8 => ?_)
      · refine ax_iconst (v := (-1)) (q := 28) B d_R_newest_27 ci_m1 rfl ?_
        refine ax_iret B E d_R_newest_28 ?_
        exact ⟨rfl, rfl⟩
      · exact absurd (show (nI 0 + (-1) : Int32) < 0 by decide) h8
    | succ j ih =>
      intro hj he
      have hs : pz_newest w (j + 1) = if pz_valid w j = true then some j else pz_newest w j := rfl
      rw [pk_m1]
      refine ax_iload_n (q := 8) B d_R_newest_7 rfl rfl rfl ?_
      refine ax_ifN_lt (q := 27) (q2 := 11) B (by omega) d_R_newest_8 rfl rfl ?_
      refine ax_aload_n (q := 12) B d_R_newest_11 rfl rfl rfl ?_
      refine ax_iload_n (q := 13) B d_R_newest_12 rfl rfl rfl ?_
      refine ax_qV1 (q := 16) B cv_R_69 d_R_newest_13 (by assumption) (Nat.le_of_ble_eq_true rfl) (by decide) (r_isValid hG hw hk hi (by omega)) rfl ?_
      refine ax_ifZ_eq (q := 21) (q2 := 19) B d_R_newest_16 rfl rfl (fun h16 => ?_) (fun h16 => ?_)
      · refine ax_iinc (v := nI j + (-1)) (q := 24) B d_R_newest_21 rfl rfl (by decide) rfl ?_
        refine ax_goto (q := 7) B d_R_newest_24 rfl ?_
        exact ih (by omega) (by rw [he, hs, if_neg (by rw [h16]; decide)])
      · refine ax_iload_n (q := 20) B d_R_newest_19 rfl rfl rfl ?_
        refine ax_iret B E d_R_newest_20 ?_
        exact ⟨by rw [he, hs, if_pos h16]; rfl, rfl⟩
  refine ax_aload_n (q := 1) B d_R_newest_0 rfl rfl rfl ?_
  refine ax_getN (q := 4) B fl_R_66 rfl d_R_newest_1 (by assumption) (by first | assumption | rfl) rfl ?_
  refine ax_iconst (v := nI 1) (q := 5) B d_R_newest_4 ci_1 rfl ?_
  refine ax_isub (q := 6) B d_R_newest_5 rfl ?_
  refine ax_top (show nI k - nI 1 = nI k + (-1) from Int32.sub_eq_add_neg _ _) ?_
  refine ax_istore_n (q := 7) B d_R_newest_6 rfl (by decide) rfl ?_
  exact loop k (Nat.le_refl k) rfl
theorem r_tableAt {l : Launch} {G : aw_G} (hG : gr G) {h : aw_H} {k : Nat} {w : Nat → Nat} (hw : rw_ w h) (hk : k ≤ 128) (e3 : h 40 2 = nI k) (hi : iz k w) (x : Int32) : aw_I l G 4 Y_R_tableAt [.inl (some 40), .inr x] h (.inr (oI (pz_tabAt w x k))) := by
  refine aw_met hG.1.1 (by decide) (Nat.le_of_ble_eq_true rfl) (fun M hM B E => ?_)
  show aw_X M G 4 0 [some (.inl (some 40)), some (.inr x), none, none] [] h
  have i40 := hG.i40
  have loop : ∀ m j, j + m = k → pz_tabAt w x j = none → aw_X M G 4 4 [some (.inl (some 40)), some (.inr x), some (.inr (nI (pz_tabs w j))), some (.inr (nI j))] [] h := by
    intro m
    induction m with
    | zero =>
      intro j hj hz
      have hj : j = k := by omega
      subst hj
      refine ax_iload_n (q := 5) B d_R_tableAt_4 rfl rfl rfl ?_
      refine ax_aload_n (q := 6) B d_R_tableAt_5 rfl rfl rfl ?_
      refine ax_getN (q := 9) B fl_R_66 rfl d_R_tableAt_6 (by assumption) (by first | assumption | rfl) rfl ?_
      refine ax_icmpN_ge (q := 36) (q2 := 12) B (by omega) (by omega) d_R_tableAt_9 rfl rfl (fun h9 => ?_) (fun h9 => ?_)
      · refine ax_iconst (v := (-1)) (q := 37) B d_R_tableAt_36 ci_m1 rfl ?_
        refine ax_iret B E d_R_tableAt_37 ?_
        exact ⟨by rw [hz]; rfl, rfl⟩
      · omega
    | succ m ih =>
      intro j hj hz
      have hs := pz_tabAt_s hz
      have h3 := ih (j + 1) (by omega)
      have ht : pz_tabs w (j + 1) = pz_tabs w j + (if pz_valid w j = true then 1 else 0) := rfl
      refine ax_iload_n (q := 5) B d_R_tableAt_4 rfl rfl rfl ?_
      refine ax_aload_n (q := 6) B d_R_tableAt_5 rfl rfl rfl ?_
      refine ax_getN (q := 9) B fl_R_66 rfl d_R_tableAt_6 (by assumption) (by first | assumption | rfl) rfl ?_
      refine ax_icmpN_ge (q := 36) (q2 := 12) B (by omega) (by omega) d_R_tableAt_9 rfl rfl (fun h9 => ?_) (fun h9 => ?_)
      · omega
      · refine ax_aload_n (q := 13) B d_R_tableAt_12 rfl rfl rfl ?_
        refine ax_iload_n (q := 14) B d_R_tableAt_13 rfl rfl rfl ?_
        refine ax_qV1 (q := 17) B cv_R_69 d_R_tableAt_14 (by assumption) (Nat.le_of_ble_eq_true rfl) (by decide) (r_isValid hG hw hk hi (by omega)) rfl ?_
        refine ax_ifZ_eq (q := 30) (q2 := 20) B d_R_tableAt_17 rfl rfl (fun h17 => ?_) (fun h17 => ?_)
        · refine ax_iincN (j := 1) (q := 33) B d_R_tableAt_30 rfl ii_1 (by decide) rfl ?_
          refine ax_goto (q := 4) B d_R_tableAt_33 rfl ?_
          rw [ht, h17] at h3 hs
          first | exact h3 (by rw [hs]; exact if_neg (fun z => h25 z.2)) | exact h3 (by rw [hs]; exact if_neg (fun z => Bool.noConfusion z.1))
        · refine ax_iincN (j := 1) (q := 23) B d_R_tableAt_20 rfl ii_1 (by decide) rfl ?_
          refine ax_iload_n (q := 24) B d_R_tableAt_23 rfl rfl rfl ?_
          refine ax_iload_n (q := 25) B d_R_tableAt_24 rfl rfl rfl ?_
          refine ax_icmp_ne (q := 30) (q2 := 28) B d_R_tableAt_25 rfl rfl (fun h25 => ?_) (fun h25 => ?_)
          · refine ax_iincN (j := 1) (q := 33) B d_R_tableAt_30 rfl ii_1 (by decide) rfl ?_
            refine ax_goto (q := 4) B d_R_tableAt_33 rfl ?_
            rw [ht, h17] at h3 hs
            first | exact h3 (by rw [hs]; exact if_neg (fun z => h25 z.2)) | exact h3 (by rw [hs]; exact if_neg (fun z => Bool.noConfusion z.1))
          · refine ax_iload_n (q := 29) B d_R_tableAt_28 rfl rfl rfl ?_
            refine ax_iret B E d_R_tableAt_29 ?_
            exact ⟨by rw [show k = j + 1 + m by omega, pz_tabAt_m (by rw [hs]; exact if_pos ⟨h17, by rw [ht, h17]; exact h25⟩) m]; rfl, rfl⟩
  refine ax_iconst (v := nI 0) (q := 1) B d_R_tableAt_0 ci_0 rfl ?_
  refine ax_istore_n (q := 2) B d_R_tableAt_1 rfl (by decide) rfl ?_
  refine ax_iconst (v := nI 0) (q := 3) B d_R_tableAt_2 ci_0 rfl ?_
  refine ax_istore_n (q := 4) B d_R_tableAt_3 rfl (by decide) rfl ?_
  exact loop k 0 (by omega) rfl
