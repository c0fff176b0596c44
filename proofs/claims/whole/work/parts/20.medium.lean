/- SessionTables.Medium: what each method answers and does -/
set_option maxHeartbeats 1000000 in
theorem k_byte {l : Launch} {G : aw_G} (hG : aw_ok G) (h : aw_H) {c o : Nat} (hc : c < 65536) (ho : o < 256) : aw_I l G 0 Y_M_checkWithByte [.inr (nI c), .inr (nI o)] h (.inr (nI (pz_byte c o))) := by
  refine aw_met hG (by decide) (Nat.le_of_ble_eq_true rfl) (fun M hM B E => ?_)
  show aw_X M G 4 0 [some (.inr (nI c)), some (.inr (nI o)), none, none] [] h
  have hb0 : c ^^^ 256 * o < 65536 := pz_xor_lt (j := 16) (by omega) (by omega)
  have loop : ∀ m j, j + m = 8 → aw_X M G 4 10 [some (.inr (nI c)), some (.inr (nI o)), some (.inr (nI (pz_bits j (c ^^^ 256 * o)))), some (.inr (nI j))] [] h := by
    intro m
    induction m with
    | zero =>
      intro j hj
      have hj : j = 8 := by omega
      subst hj
      refine ax_iload_n (q := 11) B d_M_checkWithByte_10 rfl rfl rfl ?_
      refine ax_bipush (v := nI 8) (q := 13) B d_M_checkWithByte_11 cb_8 rfl ?_
      refine ax_icmpN_ge (q := 45) (q2 := 16) B (by omega) (by omega) d_M_checkWithByte_13 rfl rfl (fun h13 => ?_) (fun h13 => ?_)
      · refine ax_iload_n (q := 46) B d_M_checkWithByte_45 rfl rfl rfl ?_
        refine ax_iret B E d_M_checkWithByte_46 ?_
        exact ⟨rfl, rfl⟩
      · omega
    | succ m ih =>
      intro j hj
      have hb := pz_bits_lt hb0 j
      have hs : pz_bits (j + 1) (c ^^^ 256 * o) = pz_bit (pz_bits j (c ^^^ 256 * o)) := rfl
      generalize pz_bits j (c ^^^ 256 * o) = x at hb hs ⊢
      refine ax_iload_n (q := 11) B d_M_checkWithByte_10 rfl rfl rfl ?_
      refine ax_bipush (v := nI 8) (q := 13) B d_M_checkWithByte_11 cb_8 rfl ?_
      refine ax_icmpN_ge (q := 45) (q2 := 16) B (by omega) (by omega) d_M_checkWithByte_13 rfl rfl (fun h13 => ?_) (fun h13 => ?_)
      · omega
      · refine ax_iload_n (q := 17) B d_M_checkWithByte_16 rfl rfl rfl ?_
        refine ax_ldc (v := nI 32768) (q := 19) B wc_M_55 d_M_checkWithByte_17 rfl ?_
        refine ax_icmpN_ge (q := 28) (q2 := 22) B (by omega) (by omega) d_M_checkWithByte_19 rfl rfl (fun h19 => ?_) (fun h19 => ?_)
        · refine ax_iconst (v := nI 2) (q := 29) B d_M_checkWithByte_28 ci_2 rfl ?_
          refine ax_iload_n (q := 30) B d_M_checkWithByte_29 rfl rfl rfl ?_
          first | refine ax_imulN (q := 31) B d_M_checkWithByte_30 rfl ?_ | refine ax_imul (q := 31) B d_M_checkWithByte_30 rfl ?_
          refine ax_ldc (v := nI 65536) (q := 33) B wc_M_56 d_M_checkWithByte_31 rfl ?_
          first | refine ax_isubN (q := 34) B (by omega) d_M_checkWithByte_33 rfl ?_ | refine ax_isub (q := 34) B d_M_checkWithByte_33 rfl ?_
          refine ax_sipush (v := nI 4129) (q := 37) B d_M_checkWithByte_34 cs_4129 rfl ?_
          first | refine ax_ixorN (q := 38) B d_M_checkWithByte_37 rfl ?_ | refine ax_ixor (q := 38) B d_M_checkWithByte_37 rfl ?_
          refine ax_istore_n (q := 39) B d_M_checkWithByte_38 rfl (by decide) rfl ?_
          refine ax_iincN (j := 1) (q := 42) B d_M_checkWithByte_39 rfl ii_1 (by decide) rfl ?_
          refine ax_goto (q := 10) B d_M_checkWithByte_42 rfl ?_
          have h3 := ih (j + 1) (by omega)
          rw [hs, pz_bit] at h3
          first | (rw [if_pos (by omega)] at h3; exact h3) | (rw [if_neg (by omega)] at h3; exact h3)
        · refine ax_iconst (v := nI 2) (q := 23) B d_M_checkWithByte_22 ci_2 rfl ?_
          refine ax_iload_n (q := 24) B d_M_checkWithByte_23 rfl rfl rfl ?_
          first | refine ax_imulN (q := 25) B d_M_checkWithByte_24 rfl ?_ | refine ax_imul (q := 25) B d_M_checkWithByte_24 rfl ?_
          refine ax_goto (q := 38) B d_M_checkWithByte_25 rfl ?_
          refine ax_istore_n (q := 39) B d_M_checkWithByte_38 rfl (by decide) rfl ?_
          refine ax_iincN (j := 1) (q := 42) B d_M_checkWithByte_39 rfl ii_1 (by decide) rfl ?_
          refine ax_goto (q := 10) B d_M_checkWithByte_42 rfl ?_
          have h3 := ih (j + 1) (by omega)
          rw [hs, pz_bit] at h3
          first | (rw [if_pos (by omega)] at h3; exact h3) | (rw [if_neg (by omega)] at h3; exact h3)
  refine ax_iload_n (q := 1) B d_M_checkWithByte_0 rfl rfl rfl ?_
  refine ax_sipush (v := nI 256) (q := 4) B d_M_checkWithByte_1 cs_256 rfl ?_
  refine ax_iload_n (q := 5) B d_M_checkWithByte_4 rfl rfl rfl ?_
  first | refine ax_imulN (q := 6) B d_M_checkWithByte_5 rfl ?_ | refine ax_imul (q := 6) B d_M_checkWithByte_5 rfl ?_
  first | refine ax_ixorN (q := 7) B d_M_checkWithByte_6 rfl ?_ | refine ax_ixor (q := 7) B d_M_checkWithByte_6 rfl ?_
  refine ax_istore_n (q := 8) B d_M_checkWithByte_7 rfl (by decide) rfl ?_
  refine ax_iconst (v := nI 0) (q := 9) B d_M_checkWithByte_8 ci_0 rfl ?_
  refine ax_istore_n (q := 10) B d_M_checkWithByte_9 rfl (by decide) rfl ?_
  exact loop 8 0 rfl
set_option maxHeartbeats 1000000 in
theorem k_crcw {l : Launch} {G : aw_G} (hG : aw_ok G) (h : aw_H) {c v : Nat} (hc : c < 65536) (hv : v < 2 ^ 31) : aw_I l G 1 Y_M_checkWithWord [.inr (nI c), .inr (nI v)] h (.inr (nI (pz_crcw c v))) := by
  refine aw_met hG (by decide) (Nat.le_of_ble_eq_true rfl) (fun M hM B E => ?_)
  show aw_X M G 4 0 [some (.inr (nI c)), some (.inr (nI v)), none, none] [] h
  have hm : ∀ x : Nat, x % 2 ^ 8 < 256 := fun x => Nat.mod_lt _ (by omega)
  have step : ∀ (x j : Nat) (s : Int32), x < 65536 → j ≤ 24 → s = nI j → ((s.toUInt32 &&& Int32.toUInt32 31).toBitVec % 32).toNat = j → aw_X M G 4 21 [some (.inr (nI c)), some (.inr (nI v)), some (.inr (nI (pz_byte x (v / 2 ^ j % 2 ^ 8)))), some (.inr s)] [] h → aw_X M G 4 5 [some (.inr (nI c)), some (.inr (nI v)), some (.inr (nI x)), some (.inr s)] [] h := by
    intro x j s hx hj hs hs2 K
    have hvj : v / 2 ^ j < 2 ^ 32 := Nat.lt_of_le_of_lt (Nat.div_le_self _ _) (by omega)
    refine ax_iload_n (q := 6) B d_M_checkWithWord_5 rfl rfl rfl ?_
    refine ax_top hs ?_
    refine ax_ifN_lt (q := 27) (q2 := 9) B (by omega) d_M_checkWithWord_6 rfl rfl ?_
    refine ax_iload_n (q := 10) B d_M_checkWithWord_9 rfl rfl rfl ?_
    refine ax_iload_n (q := 11) B d_M_checkWithWord_10 rfl rfl rfl ?_
    refine ax_iload_n (q := 12) B d_M_checkWithWord_11 rfl rfl rfl ?_
    refine ax_iushrN (q := 13) B j (by omega) hs2 d_M_checkWithWord_12 rfl ?_
    refine ax_sipush (v := nI 255) (q := 16) B d_M_checkWithWord_13 cs_255 rfl ?_
    refine ax_iandN (q := 17) B 8 (by omega) (by decide) d_M_checkWithWord_16 rfl ?_
    refine ax_qS2 (q := 20) B cv_M_52 d_M_checkWithWord_17 (by decide) (by decide) (k_byte hG h hx (hm _)) rfl ?_
    refine ax_istore_n (q := 21) B d_M_checkWithWord_20 rfl (by decide) rfl ?_
    exact K
  have last : ∀ x : Nat, aw_X M G 4 5 [some (.inr (nI c)), some (.inr (nI v)), some (.inr (nI x)), some (.inr (-8))] [] h → True := fun _ _ => trivial
  have h1 := pz_byte_lt hc (hm (v / 2 ^ 24))
  have h2 := pz_byte_lt h1 (hm (v / 2 ^ 16))
  have h3 := pz_byte_lt h2 (hm (v / 2 ^ 8))
  refine ax_iload_n (q := 1) B d_M_checkWithWord_0 rfl rfl rfl ?_
  refine ax_istore_n (q := 2) B d_M_checkWithWord_1 rfl (by decide) rfl ?_
  refine ax_bipush (v := nI 24) (q := 4) B d_M_checkWithWord_2 cb_24 rfl ?_
  refine ax_istore_n (q := 5) B d_M_checkWithWord_4 rfl (by decide) rfl ?_
  refine step c 24 (nI 24) hc (by omega) rfl (by decide) ?_
  refine ax_iinc (v := nI 16) (q := 24) B d_M_checkWithWord_21 rfl (by decide) (by decide) rfl ?_
  refine ax_goto (q := 5) B d_M_checkWithWord_24 rfl ?_
  refine step _ 16 (nI 16) h1 (by omega) rfl (by decide) ?_
  refine ax_iinc (v := nI 8) (q := 24) B d_M_checkWithWord_21 rfl (by decide) (by decide) rfl ?_
  refine ax_goto (q := 5) B d_M_checkWithWord_24 rfl ?_
  refine step _ 8 (nI 8) h2 (by omega) rfl (by decide) ?_
  refine ax_iinc (v := nI 0) (q := 24) B d_M_checkWithWord_21 rfl (by decide) (by decide) rfl ?_
  refine ax_goto (q := 5) B d_M_checkWithWord_24 rfl ?_
  refine step _ 0 (nI 0) h3 (by omega) rfl (by decide) ?_
  refine ax_iinc (v := -8) (q := 24) B d_M_checkWithWord_21 rfl (by decide) (by decide) rfl ?_
  refine ax_goto (q := 5) B d_M_checkWithWord_24 rfl ?_
  refine ax_iload_n (q := 6) B d_M_checkWithWord_5 rfl rfl rfl ?_
  refine ax_if_lt (q := 27) (q2 := 9) B d_M_checkWithWord_6 rfl rfl (fun h6 => ?_) (fun h6 => ?_)
  · refine ax_iload_n (q := 28) B d_M_checkWithWord_27 rfl rfl rfl ?_
    refine ax_iret B E d_M_checkWithWord_28 ?_
    exact ⟨rfl, rfl⟩
  · exact absurd (by decide) h6
theorem k_unwritten {l : Launch} {G : aw_G} (hG : gz G) {h : aw_H} {n k : Nat} (e0 : h 1 0 = nI n) (e3 : h 1 3 = nI k) (hk : k ≤ n) : aw_I l G 0 Y_M_unwritten [.inl (some 1)] h (.inr (nI (n - k))) := by
  refine aw_met hG.1 (by decide) (Nat.le_of_ble_eq_true rfl) (fun M hM B E => ?_)
  show aw_X M G 1 0 [some (.inl (some 1))] [] h
  have i1 := hG.is1
  refine ax_aload_n (q := 1) B d_M_unwritten_0 rfl rfl rfl ?_
  refine ax_getN (q := 4) B fl_M_9 rfl d_M_unwritten_1 (by assumption) (by first | assumption | rfl) rfl ?_
  refine ax_aload_n (q := 5) B d_M_unwritten_4 rfl rfl rfl ?_
  refine ax_getN (q := 8) B fl_M_22 rfl d_M_unwritten_5 (by assumption) (by first | assumption | rfl) rfl ?_
  first | refine ax_isubN (q := 9) B (by omega) d_M_unwritten_8 rfl ?_ | refine ax_isub (q := 9) B d_M_unwritten_8 rfl ?_
  refine ax_iret B E d_M_unwritten_9 ?_
  exact ⟨rfl, rfl⟩
theorem k_isWritten {l : Launch} {G : aw_G} (hG : gz G) {h : aw_H} {k : Nat} (e3 : h 1 3 = nI k) (x : Int32) : aw_I l G 0 Y_M_isWritten [.inl (some 1), .inr x] h (.inr (bI (pz_small x k))) := by
  refine aw_met hG.1 (by decide) (Nat.le_of_ble_eq_true rfl) (fun M hM B E => ?_)
  show aw_X M G 2 0 [some (.inl (some 1)), some (.inr x)] [] h
  have i1 := hG.is1
  refine ax_iload_n (q := 1) B d_M_isWritten_0 rfl rfl rfl ?_
  refine ax_if_lt (q := 16) (q2 := 4) B d_M_isWritten_1 rfl rfl (fun h1 => ?_) (fun h1 => ?_)
  · refine ax_iconst (v := nI 0) (q := 17) B d_M_isWritten_16 ci_0 rfl ?_
    refine ax_zret B E (by first | exact bI_or _ | decide) d_M_isWritten_17 ?_
    first | exact ⟨by rw [pz_small_1 h1]; rfl, rfl⟩ | exact ⟨by rw [pz_small_2 h9]; rfl, rfl⟩ | exact ⟨by rw [pz_small_t h1 h9]; rfl, rfl⟩
  · refine ax_iload_n (q := 5) B d_M_isWritten_4 rfl rfl rfl ?_
    refine ax_aload_n (q := 6) B d_M_isWritten_5 rfl rfl rfl ?_
    refine ax_getN (q := 9) B fl_M_22 rfl d_M_isWritten_6 (by assumption) (by first | assumption | rfl) rfl ?_
    refine ax_icmp_ge (q := 16) (q2 := 12) B d_M_isWritten_9 rfl rfl (fun h9 => ?_) (fun h9 => ?_)
    · refine ax_iconst (v := nI 0) (q := 17) B d_M_isWritten_16 ci_0 rfl ?_
      refine ax_zret B E (by first | exact bI_or _ | decide) d_M_isWritten_17 ?_
      first | exact ⟨by rw [pz_small_1 h1]; rfl, rfl⟩ | exact ⟨by rw [pz_small_2 h9]; rfl, rfl⟩ | exact ⟨by rw [pz_small_t h1 h9]; rfl, rfl⟩
    · refine ax_iconst (v := nI 1) (q := 13) B d_M_isWritten_12 ci_1 rfl ?_
      refine ax_goto (q := 17) B d_M_isWritten_13 rfl ?_
      refine ax_zret B E (by first | exact bI_or _ | decide) d_M_isWritten_17 ?_
      first | exact ⟨by rw [pz_small_1 h1]; rfl, rfl⟩ | exact ⟨by rw [pz_small_2 h9]; rfl, rfl⟩ | exact ⟨by rw [pz_small_t h1 h9]; rfl, rfl⟩
theorem k_hasWord {l : Launch} {G : aw_G} (hG : gz G) {h : aw_H} {n : Nat} (e0 : h 1 0 = nI n) (x i : Int32) : aw_I l G 0 Y_M_hasWord [.inl (some 1), .inr x, .inr i] h (.inr (bI (pz_small x n && pz_small i 16))) := by
  refine aw_met hG.1 (by decide) (Nat.le_of_ble_eq_true rfl) (fun M hM B E => ?_)
  show aw_X M G 3 0 [some (.inl (some 1)), some (.inr x), some (.inr i)] [] h
  have i1 := hG.is1
  refine ax_iload_n (q := 1) B d_M_hasWord_0 rfl rfl rfl ?_
  refine ax_if_lt (q := 26) (q2 := 4) B d_M_hasWord_1 rfl rfl (fun h1 => ?_) (fun h1 => ?_)
  · refine ax_iconst (v := nI 0) (q := 27) B d_M_hasWord_26 ci_0 rfl ?_
    refine ax_zret B E (by first | exact bI_or _ | decide) d_M_hasWord_27 ?_
    first | exact ⟨by rw [pz_small_1 h1]; rfl, rfl⟩ | exact ⟨by rw [pz_small_2 h9]; rfl, rfl⟩ | exact ⟨by rw [pz_small_t h1 h9, pz_small_1 h13]; rfl, rfl⟩ | exact ⟨by rw [pz_small_t h1 h9, pz_small_2 h19]; rfl, rfl⟩ | exact ⟨by rw [pz_small_t h1 h9, pz_small_t h13 h19]; rfl, rfl⟩
  · refine ax_iload_n (q := 5) B d_M_hasWord_4 rfl rfl rfl ?_
    refine ax_aload_n (q := 6) B d_M_hasWord_5 rfl rfl rfl ?_
    refine ax_getN (q := 9) B fl_M_9 rfl d_M_hasWord_6 (by assumption) (by first | assumption | rfl) rfl ?_
    refine ax_icmp_ge (q := 26) (q2 := 12) B d_M_hasWord_9 rfl rfl (fun h9 => ?_) (fun h9 => ?_)
    · refine ax_iconst (v := nI 0) (q := 27) B d_M_hasWord_26 ci_0 rfl ?_
      refine ax_zret B E (by first | exact bI_or _ | decide) d_M_hasWord_27 ?_
      first | exact ⟨by rw [pz_small_1 h1]; rfl, rfl⟩ | exact ⟨by rw [pz_small_2 h9]; rfl, rfl⟩ | exact ⟨by rw [pz_small_t h1 h9, pz_small_1 h13]; rfl, rfl⟩ | exact ⟨by rw [pz_small_t h1 h9, pz_small_2 h19]; rfl, rfl⟩ | exact ⟨by rw [pz_small_t h1 h9, pz_small_t h13 h19]; rfl, rfl⟩
    · refine ax_iload_n (q := 13) B d_M_hasWord_12 rfl rfl rfl ?_
      refine ax_if_lt (q := 26) (q2 := 16) B d_M_hasWord_13 rfl rfl (fun h13 => ?_) (fun h13 => ?_)
      · refine ax_iconst (v := nI 0) (q := 27) B d_M_hasWord_26 ci_0 rfl ?_
        refine ax_zret B E (by first | exact bI_or _ | decide) d_M_hasWord_27 ?_
        first | exact ⟨by rw [pz_small_1 h1]; rfl, rfl⟩ | exact ⟨by rw [pz_small_2 h9]; rfl, rfl⟩ | exact ⟨by rw [pz_small_t h1 h9, pz_small_1 h13]; rfl, rfl⟩ | exact ⟨by rw [pz_small_t h1 h9, pz_small_2 h19]; rfl, rfl⟩ | exact ⟨by rw [pz_small_t h1 h9, pz_small_t h13 h19]; rfl, rfl⟩
      · refine ax_iload_n (q := 17) B d_M_hasWord_16 rfl rfl rfl ?_
        refine ax_bipush (v := nI 16) (q := 19) B d_M_hasWord_17 cb_16 rfl ?_
        refine ax_icmp_ge (q := 26) (q2 := 22) B d_M_hasWord_19 rfl rfl (fun h19 => ?_) (fun h19 => ?_)
        · refine ax_iconst (v := nI 0) (q := 27) B d_M_hasWord_26 ci_0 rfl ?_
          refine ax_zret B E (by first | exact bI_or _ | decide) d_M_hasWord_27 ?_
          first | exact ⟨by rw [pz_small_1 h1]; rfl, rfl⟩ | exact ⟨by rw [pz_small_2 h9]; rfl, rfl⟩ | exact ⟨by rw [pz_small_t h1 h9, pz_small_1 h13]; rfl, rfl⟩ | exact ⟨by rw [pz_small_t h1 h9, pz_small_2 h19]; rfl, rfl⟩ | exact ⟨by rw [pz_small_t h1 h9, pz_small_t h13 h19]; rfl, rfl⟩
        · refine ax_iconst (v := nI 1) (q := 23) B d_M_hasWord_22 ci_1 rfl ?_
          refine ax_goto (q := 27) B d_M_hasWord_23 rfl ?_
          refine ax_zret B E (by first | exact bI_or _ | decide) d_M_hasWord_27 ?_
          first | exact ⟨by rw [pz_small_1 h1]; rfl, rfl⟩ | exact ⟨by rw [pz_small_2 h9]; rfl, rfl⟩ | exact ⟨by rw [pz_small_t h1 h9, pz_small_1 h13]; rfl, rfl⟩ | exact ⟨by rw [pz_small_t h1 h9, pz_small_2 h19]; rfl, rfl⟩ | exact ⟨by rw [pz_small_t h1 h9, pz_small_t h13 h19]; rfl, rfl⟩
/-- a word of the medium -/
theorem k_wordAt {l : Launch} {G : aw_G} (hG : gz G) {h : aw_H} (e0 : h 1 0 = nI (aw_n G)) {p i : Nat} (hp : p < aw_n G) (hi : i < 16) : aw_I l G 1 Y_M_wordAt [.inl (some 1), .inr (nI p), .inr (nI i)] h (.inr (h 2 (16 * p + i))) := by
  refine aw_met hG.1 (by decide) (Nat.le_of_ble_eq_true rfl) (fun M hM B E => ?_)
  show aw_X M G 3 0 [some (.inl (some 1)), some (.inr (nI p)), some (.inr (nI i))] [] h
  have i1 := hG.is1
  have a2 := hG.ar2
  have r1 : aw_rM 1 1 = some 2 := rfl
  have hG' := hG
  obtain ⟨-, -, n1, n2⟩ := hG
  have hw : (pz_small (nI p) (aw_n G) && pz_small (nI i) 16) = true := by rw [pz_small_N (by omega) hp, pz_small_N (by omega) hi]; rfl
  refine ax_aload_n (q := 1) B d_M_wordAt_0 rfl rfl rfl ?_
  refine ax_iload_n (q := 2) B d_M_wordAt_1 rfl rfl rfl ?_
  refine ax_iload_n (q := 3) B d_M_wordAt_2 rfl rfl rfl ?_
  refine ax_qV2 (q := 6) B cv_M_28 d_M_wordAt_3 (by assumption) (by decide) (by decide) (k_hasWord hG' e0 _ _) rfl ?_
  refine ax_ifZ_eq (q := 23) (q2 := 9) B d_M_wordAt_6 rfl rfl (fun h6 => ?_) (fun h6 => ?_)
  · rw [hw] at h6; cases h6
  · refine ax_aload_n (q := 10) B d_M_wordAt_9 rfl rfl rfl ?_
    refine ax_getP (q := 13) B fl_M_15 rfl d_M_wordAt_10 (by assumption) (by assumption) rfl ?_
    refine ax_iload_n (q := 14) B d_M_wordAt_13 rfl rfl rfl ?_
    refine ax_bipush (v := nI 16) (q := 16) B d_M_wordAt_14 cb_16 rfl ?_
    first | refine ax_imulN (q := 17) B d_M_wordAt_16 rfl ?_ | refine ax_imul (q := 17) B d_M_wordAt_16 rfl ?_
    refine ax_iload_n (q := 18) B d_M_wordAt_17 rfl rfl rfl ?_
    first | refine ax_iaddN (q := 19) B d_M_wordAt_18 rfl ?_ | refine ax_iadd (q := 19) B d_M_wordAt_18 rfl ?_
    refine ax_ialdN (j := 16 * p + i) (q := 20) B d_M_wordAt_19 (by assumption) (congrArg nI (by omega)) (by omega) (by omega) rfl rfl ?_
    refine ax_goto (q := 24) B d_M_wordAt_20 rfl ?_
    refine ax_iret B E d_M_wordAt_24 ?_
    exact ⟨rfl, rfl⟩
