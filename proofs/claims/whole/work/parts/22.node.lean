/- SessionTables.Node at place b, its list behind it -/
def nz (G : aw_G) (b : Nat) : Prop := aw_is G b 1 ∧ aw_rM b 0 = some (b + 1) ∧ aw_ar G (b + 1) 0 10
def hz_abs (h : aw_H) (b : Nat) : aw_H := aw_u (aw_u (aw_u (aw_u h b 1 (nI 0)) b 2 (nI 0)) b 3 (-1)) b 4 (nI 0)
def hz_new (h : aw_H) (b : Nat) (x : Int32) : aw_H := aw_u (aw_u (aw_u (aw_u h b 1 x) b 2 (nI 0)) b 3 (-1)) b 4 (nI 1)
theorem aw_rd {h : aw_H} {p k q j : Nat} {x y : Int32} (hq : ¬ (q = p ∧ j = k)) (e : h q j = y) : aw_u h p k x q j = y := by
  unfold aw_u
  split
  · rename_i hp
    subst hp
    unfold upd
    rw [if_neg (fun z => hq ⟨rfl, z⟩)]
    exact e
  · exact e
theorem aw_rs {h : aw_H} {p k : Nat} {x : Int32} : aw_u h p k x p k = x := by
  rw [aw_u_eq]
  exact if_pos rfl
theorem k_becomeAbsent {l : Launch} {G : aw_G} (hG : aw_ok G) {b : Nat} (hb : nz G b) (h : aw_H) : aw_P l G 0 Y_N_becomeAbsent [.inl (some b)] h (fun h' => h' = hz_abs h b) := by
  refine aw_met hG (by decide) (Nat.le_of_ble_eq_true rfl) (fun M hM B E => ?_)
  show aw_X M G 1 0 [some (.inl (some b))] [] h
  have ib := hb.1
  refine ax_aload_n (q := 1) B d_N_becomeAbsent_0 rfl rfl rfl ?_
  refine ax_iconst (v := nI 0) (q := 2) B d_N_becomeAbsent_1 ci_0 rfl ?_
  refine ax_putN (q := 5) B fp_N_15 d_N_becomeAbsent_2 (by assumption) rfl ?_
  refine ax_aload_n (q := 6) B d_N_becomeAbsent_5 rfl rfl rfl ?_
  refine ax_iconst (v := nI 0) (q := 7) B d_N_becomeAbsent_6 ci_0 rfl ?_
  refine ax_putN (q := 10) B fp_N_19 d_N_becomeAbsent_7 (by assumption) rfl ?_
  refine ax_aload_n (q := 11) B d_N_becomeAbsent_10 rfl rfl rfl ?_
  refine ax_iconst (v := (-1)) (q := 12) B d_N_becomeAbsent_11 ci_m1 rfl ?_
  refine ax_putN (q := 15) B fp_N_22 d_N_becomeAbsent_12 (by assumption) rfl ?_
  refine ax_aload_n (q := 16) B d_N_becomeAbsent_15 rfl rfl rfl ?_
  refine ax_iconst (v := nI 0) (q := 17) B d_N_becomeAbsent_16 ci_0 rfl ?_
  refine ax_putB (q := 20) B fp_N_25 (by first | exact bI_or _ | decide) d_N_becomeAbsent_17 (by assumption) rfl ?_
  refine ax_vret B E d_N_becomeAbsent_20 ?_
  exact ⟨rfl, rfl⟩
theorem k_becomeNew {l : Launch} {G : aw_G} (hG : aw_ok G) {b : Nat} (hb : nz G b) (h : aw_H) (x : Int32) : aw_P l G 0 Y_N_becomeNew [.inl (some b), .inr x] h (fun h' => h' = hz_new h b x) := by
  refine aw_met hG (by decide) (Nat.le_of_ble_eq_true rfl) (fun M hM B E => ?_)
  show aw_X M G 2 0 [some (.inl (some b)), some (.inr x)] [] h
  have ib := hb.1
  refine ax_aload_n (q := 1) B d_N_becomeNew_0 rfl rfl rfl ?_
  refine ax_iload_n (q := 2) B d_N_becomeNew_1 rfl rfl rfl ?_
  refine ax_putN (q := 5) B fp_N_15 d_N_becomeNew_2 (by assumption) rfl ?_
  refine ax_aload_n (q := 6) B d_N_becomeNew_5 rfl rfl rfl ?_
  refine ax_iconst (v := nI 0) (q := 7) B d_N_becomeNew_6 ci_0 rfl ?_
  refine ax_putN (q := 10) B fp_N_19 d_N_becomeNew_7 (by assumption) rfl ?_
  refine ax_aload_n (q := 11) B d_N_becomeNew_10 rfl rfl rfl ?_
  refine ax_iconst (v := (-1)) (q := 12) B d_N_becomeNew_11 ci_m1 rfl ?_
  refine ax_putN (q := 15) B fp_N_22 d_N_becomeNew_12 (by assumption) rfl ?_
  refine ax_aload_n (q := 16) B d_N_becomeNew_15 rfl rfl rfl ?_
  refine ax_iconst (v := nI 1) (q := 17) B d_N_becomeNew_16 ci_1 rfl ?_
  refine ax_putB (q := 20) B fp_N_25 (by first | exact bI_or _ | decide) d_N_becomeNew_17 (by assumption) rfl ?_
  refine ax_vret B E d_N_becomeNew_20 ?_
  exact ⟨rfl, rfl⟩
theorem k_ifUnchanged {l : Launch} {G : aw_G} (hG : aw_ok G) {b : Nat} (hb : nz G b) {h : aw_H} {c : Bool} (e4 : h b 4 = bI c) : aw_I l G 0 Y_N_ifUnchanged [.inl (some b)] h (.inr (nI (if c = true then 0 else 1))) := by
  refine aw_met hG (by decide) (Nat.le_of_ble_eq_true rfl) (fun M hM B E => ?_)
  show aw_X M G 1 0 [some (.inl (some b))] [] h
  have ib := hb.1
  refine ax_aload_n (q := 1) B d_N_ifUnchanged_0 rfl rfl rfl ?_
  refine ax_getN (q := 4) B fl_N_25 rfl d_N_ifUnchanged_1 (by assumption) (by first | assumption | rfl) rfl ?_
  refine ax_ifZ_eq (q := 11) (q2 := 7) B d_N_ifUnchanged_4 rfl rfl (fun h4 => ?_) (fun h4 => ?_)
  · refine ax_iconst (v := nI 1) (q := 12) B d_N_ifUnchanged_11 ci_1 rfl ?_
    refine ax_iret B E d_N_ifUnchanged_12 ?_
    exact ⟨by rw [h4]; rfl, rfl⟩
  · refine ax_iconst (v := nI 0) (q := 8) B d_N_ifUnchanged_7 ci_0 rfl ?_
    refine ax_goto (q := 12) B d_N_ifUnchanged_8 rfl ?_
    refine ax_iret B E d_N_ifUnchanged_12 ?_
    exact ⟨by rw [h4]; rfl, rfl⟩
theorem k_has {l : Launch} {G : aw_G} (hG : aw_ok G) {b : Nat} (hb : nz G b) {h : aw_H} {c : Nat} (e2 : h b 2 = nI c) (x : Int32) : aw_I l G 0 Y_N_has [.inl (some b), .inr x] h (.inr (bI (pz_small x c))) := by
  refine aw_met hG (by decide) (Nat.le_of_ble_eq_true rfl) (fun M hM B E => ?_)
  show aw_X M G 2 0 [some (.inl (some b)), some (.inr x)] [] h
  have ib := hb.1
  refine ax_iload_n (q := 1) B d_N_has_0 rfl rfl rfl ?_
  refine ax_if_lt (q := 16) (q2 := 4) B d_N_has_1 rfl rfl (fun h1 => ?_) (fun h1 => ?_)
  · refine ax_iconst (v := nI 0) (q := 17) B d_N_has_16 ci_0 rfl ?_
    refine ax_zret B E (by first | exact bI_or _ | decide) d_N_has_17 ?_
    first | exact ⟨by rw [pz_small_1 h1]; rfl, rfl⟩ | exact ⟨by rw [pz_small_2 h9]; rfl, rfl⟩ | exact ⟨by rw [pz_small_t h1 h9]; rfl, rfl⟩
  · refine ax_iload_n (q := 5) B d_N_has_4 rfl rfl rfl ?_
    refine ax_aload_n (q := 6) B d_N_has_5 rfl rfl rfl ?_
    refine ax_getN (q := 9) B fl_N_19 rfl d_N_has_6 (by assumption) (by first | assumption | rfl) rfl ?_
    refine ax_icmp_ge (q := 16) (q2 := 12) B d_N_has_9 rfl rfl (fun h9 => ?_) (fun h9 => ?_)
    · refine ax_iconst (v := nI 0) (q := 17) B d_N_has_16 ci_0 rfl ?_
      refine ax_zret B E (by first | exact bI_or _ | decide) d_N_has_17 ?_
      first | exact ⟨by rw [pz_small_1 h1]; rfl, rfl⟩ | exact ⟨by rw [pz_small_2 h9]; rfl, rfl⟩ | exact ⟨by rw [pz_small_t h1 h9]; rfl, rfl⟩
    · refine ax_iconst (v := nI 1) (q := 13) B d_N_has_12 ci_1 rfl ?_
      refine ax_goto (q := 17) B d_N_has_13 rfl ?_
      refine ax_zret B E (by first | exact bI_or _ | decide) d_N_has_17 ?_
      first | exact ⟨by rw [pz_small_1 h1]; rfl, rfl⟩ | exact ⟨by rw [pz_small_2 h9]; rfl, rfl⟩ | exact ⟨by rw [pz_small_t h1 h9]; rfl, rfl⟩
/-- a node's list: its first c places hold f -/
def lz (h : aw_H) (b c : Nat) (f : Nat → Nat) : Prop := h b 2 = nI c ∧ c ≤ 10 ∧ ∀ j, j < c → h (b + 1) j = nI (f j) ∧ f j < 65536
theorem pz_ix_mono {f : Nat → Nat} {x : Int32} {i j : Nat} (h : pz_ix f x j = some i) : ∀ {c}, j ≤ c → pz_ix f x c = some i := by
  intro c
  induction c with
  | zero =>
    intro hc
    have : j = 0 := by omega
    subst this
    exact h
  | succ c ih =>
    intro hc
    by_cases hj : j = c + 1
    · subst hj; exact h
    · have h2 := ih (by omega)
      show (match pz_ix f x c with | some i => some i | none => if nI (f c / 16) = x then some c else none) = _
      rw [h2]
theorem k_indexOfName {l : Launch} {G : aw_G} (hG : aw_ok G) {b : Nat} (hb : nz G b) {h : aw_H} {c : Nat} {f : Nat → Nat} (hL : lz h b c f) (x : Int32) : aw_I l G 0 Y_N_indexOfName [.inl (some b), .inr x] h (.inr (oI (pz_ix f x c))) := by
  refine aw_met hG (by decide) (Nat.le_of_ble_eq_true rfl) (fun M hM B E => ?_)
  show aw_X M G 3 0 [some (.inl (some b)), some (.inr x), none] [] h
  obtain ⟨ib, rb, ab⟩ := hb
  obtain ⟨e2, hc, hf⟩ := hL
  have loop : ∀ m j, j + m = c → pz_ix f x j = none → aw_X M G 3 2 [some (.inl (some b)), some (.inr x), some (.inr (nI j))] [] h := by
    intro m
    induction m with
    | zero =>
      intro j hj hn
      have hj : j = c := by omega
      subst hj
      refine ax_iload_n (q := 3) B d_N_indexOfName_2 rfl rfl rfl ?_
      refine ax_aload_n (q := 4) B d_N_indexOfName_3 rfl rfl rfl ?_
      refine ax_getN (q := 7) B fl_N_19 rfl d_N_indexOfName_4 (by assumption) (by first | assumption | rfl) rfl ?_
      refine ax_icmpN_ge (q := 30) (q2 := 10) B (by omega) (by omega) d_N_indexOfName_7 rfl rfl (fun h7 => ?_) (fun h7 => ?_)
      · refine ax_iconst (v := (-1)) (q := 31) B d_N_indexOfName_30 ci_m1 rfl ?_
        refine ax_iret B E d_N_indexOfName_31 ?_
        exact ⟨by rw [hn]; rfl, rfl⟩
      · omega
    | succ m ih =>
      intro j hj hn
      obtain ⟨ej, hfj⟩ := hf j (by omega)
      have hx : pz_ix f x (j + 1) = if nI (f j / 16) = x then some j else none := by
        show (match pz_ix f x j with | some i => some i | none => if nI (f j / 16) = x then some j else none) = _
        rw [hn]
      refine ax_iload_n (q := 3) B d_N_indexOfName_2 rfl rfl rfl ?_
      refine ax_aload_n (q := 4) B d_N_indexOfName_3 rfl rfl rfl ?_
      refine ax_getN (q := 7) B fl_N_19 rfl d_N_indexOfName_4 (by assumption) (by first | assumption | rfl) rfl ?_
      refine ax_icmpN_ge (q := 30) (q2 := 10) B (by omega) (by omega) d_N_indexOfName_7 rfl rfl (fun h7 => ?_) (fun h7 => ?_)
      · omega
      · refine ax_aload_n (q := 11) B d_N_indexOfName_10 rfl rfl rfl ?_
        refine ax_getP (q := 14) B fl_N_9 rfl d_N_indexOfName_11 (by assumption) (by assumption) rfl ?_
        refine ax_iload_n (q := 15) B d_N_indexOfName_14 rfl rfl rfl ?_
        refine ax_ialdN (q := 16) B d_N_indexOfName_15 (by assumption) rfl (by omega) (by omega) (by first | assumption | rfl) rfl ?_
        refine ax_iconst (v := nI 4) (q := 17) B d_N_indexOfName_16 ci_4 rfl ?_
        refine ax_ishrN (q := 18) B 4 (by omega) (by decide) d_N_indexOfName_17 rfl ?_
        refine ax_iload_n (q := 19) B d_N_indexOfName_18 rfl rfl rfl ?_
        refine ax_icmp_ne (q := 24) (q2 := 22) B d_N_indexOfName_19 rfl rfl (fun h19 => ?_) (fun h19 => ?_)
        · refine ax_iincN (j := 1) (q := 27) B d_N_indexOfName_24 rfl ii_1 (by decide) rfl ?_
          refine ax_goto (q := 2) B d_N_indexOfName_27 rfl ?_
          exact ih (j + 1) (by omega) (by rw [hx, if_neg h19])
        · refine ax_iload_n (q := 23) B d_N_indexOfName_22 rfl rfl rfl ?_
          refine ax_iret B E d_N_indexOfName_23 ?_
          exact ⟨by rw [pz_ix_mono (hx.trans (if_pos h19)) (by omega)]; rfl, rfl⟩
  refine ax_iconst (v := nI 0) (q := 1) B d_N_indexOfName_0 ci_0 rfl ?_
  refine ax_istore_n (q := 2) B d_N_indexOfName_1 rfl (by decide) rfl ?_
  exact loop c 0 (by omega) rfl
