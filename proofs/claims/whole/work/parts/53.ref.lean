/-- the sector that the reference is laying -/
def secz (f : Nat → Nat) (h : aw_H) : Prop := ∀ i, i < 16 → h 50 i = nI (f i) ∧ f i < 65536
def pz_hdr (a k b : Nat) : Nat → Nat := fun i => if i = 0 then a else if i = 2 then k else if i = 3 then b else 0
theorem secz.put {f : Nat → Nat} {h : aw_H} {i v : Nat} (hs : secz f h) (hv : v < 65536) : secz (pz_up f i v) (aw_u h 50 i (nI v)) := fun j hj => by
  by_cases hij : j = i
  · subst hij
    rw [pz_up_s]
    exact ⟨aw_rs, hv⟩
  · rw [pz_up_n hij]
    exact ⟨aw_rd (by omega) (hs j hj).1, (hs j hj).2⟩
theorem r_clearSector {l : Launch} {G : aw_G} (hG : gr G) {h : aw_H} {k a b : Nat} (e2 : h 40 2 = nI k) (hk : k ≤ 128) (ha : a < 65536) (hb : b < 65536) : aw_P l G 0 Y_R_clearSector [.inl (some 40), .inr (nI a), .inr (nI b)] h (fun h' => secz (pz_hdr a k b) h' ∧ ∀ q, q ≠ 50 → h' q = h q) := by
  refine aw_met hG.1.1 (by decide) (Nat.le_of_ble_eq_true rfl) (fun M hM B E => ?_)
  show aw_X M G 4 0 [some (.inl (some 40)), some (.inr (nI a)), some (.inr (nI b)), none] [] h
  have i40 := hG.i40
  have a50 := hG.a50
  have r13 : aw_rM 40 13 = some 50 := rfl
  have loop : ∀ m j (f : aw_H), j + m = 16 → (∀ i, i < j → f 50 i = nI 0) → (∀ q, q ≠ 50 → f q = h q) → aw_X M G 4 2 [some (.inl (some 40)), some (.inr (nI a)), some (.inr (nI b)), some (.inr (nI j))] [] f := by
    intro m
    induction m with
    | zero =>
      intro j f hj g1 g2
      have hj : j = 16 := by omega
      subst hj
      have f2 : aw_u f 50 0 (nI a) 40 2 = nI k := aw_rd (by omega) (by rw [g2 40 (by omega)]; exact e2)
      have z : secz (fun _ => 0) f := fun i hi => ⟨g1 i hi, by show (0 : Nat) < 65536; omega⟩
      have fin : secz (pz_hdr a k b) (aw_u (aw_u (aw_u f 50 0 (nI a)) 50 2 (nI k)) 50 3 (nI b)) := by
        have h3 := ((z.put (i := 0) ha).put (i := 2) (show k < 65536 by omega)).put (i := 3) hb
        have e : pz_hdr a k b = pz_up (pz_up (pz_up (fun _ => 0) 0 a) 2 k) 3 b := by
          funext x
          unfold pz_hdr pz_up
          by_cases x0 : x = 0
          · subst x0; rfl
          · by_cases x2 : x = 2
            · subst x2; rfl
            · by_cases x3 : x = 3
              · subst x3; rfl
              · rw [if_neg x0, if_neg x2, if_neg x3, if_neg x3, if_neg x2, if_neg x0]
        rw [e]
        exact h3
      refine ax_iload_n (q := 3) B d_R_clearSector_2 rfl rfl rfl ?_
      refine ax_bipush (v := nI 16) (q := 5) B d_R_clearSector_3 cb_16 rfl ?_
      refine ax_icmpN_ge (q := 21) (q2 := 8) B (by omega) (by omega) d_R_clearSector_5 rfl rfl (fun h5 => ?_) (fun h5 => ?_)
      · refine ax_aload_n (q := 22) B d_R_clearSector_21 rfl rfl rfl ?_
        refine ax_getP (q := 25) B fl_R_38 rfl d_R_clearSector_22 (by assumption) (by assumption) rfl ?_
        refine ax_iconst (v := nI 0) (q := 26) B d_R_clearSector_25 ci_0 rfl ?_
        refine ax_iload_n (q := 27) B d_R_clearSector_26 rfl rfl rfl ?_
        refine ax_iastN (q := 28) B d_R_clearSector_27 (by assumption) rfl (by omega) (by omega) rfl ?_
        refine ax_aload_n (q := 29) B d_R_clearSector_28 rfl rfl rfl ?_
        refine ax_getP (q := 32) B fl_R_38 rfl d_R_clearSector_29 (by assumption) (by assumption) rfl ?_
        refine ax_iconst (v := nI 2) (q := 33) B d_R_clearSector_32 ci_2 rfl ?_
        refine ax_aload_n (q := 34) B d_R_clearSector_33 rfl rfl rfl ?_
        refine ax_getN (x := nI k) (q := 37) B fl_R_66 rfl d_R_clearSector_34 (by assumption) f2 rfl ?_
        refine ax_iastN (q := 38) B d_R_clearSector_37 (by assumption) rfl (by omega) (by omega) rfl ?_
        refine ax_aload_n (q := 39) B d_R_clearSector_38 rfl rfl rfl ?_
        refine ax_getP (q := 42) B fl_R_38 rfl d_R_clearSector_39 (by assumption) (by assumption) rfl ?_
        refine ax_iconst (v := nI 3) (q := 43) B d_R_clearSector_42 ci_3 rfl ?_
        refine ax_iload_n (q := 44) B d_R_clearSector_43 rfl rfl rfl ?_
        refine ax_iastN (q := 45) B d_R_clearSector_44 (by assumption) rfl (by omega) (by omega) rfl ?_
        refine ax_vret B E d_R_clearSector_45 ?_
        exact ⟨rfl, fin, fun q hq => by rw [aw_u_ne hq, aw_u_ne hq, aw_u_ne hq]; exact g2 q hq⟩
      · omega
    | succ m ih =>
      intro j f hj g1 g2
      refine ax_iload_n (q := 3) B d_R_clearSector_2 rfl rfl rfl ?_
      refine ax_bipush (v := nI 16) (q := 5) B d_R_clearSector_3 cb_16 rfl ?_
      refine ax_icmpN_ge (q := 21) (q2 := 8) B (by omega) (by omega) d_R_clearSector_5 rfl rfl (fun h5 => ?_) (fun h5 => ?_)
      · omega
      · refine ax_aload_n (q := 9) B d_R_clearSector_8 rfl rfl rfl ?_
        refine ax_getP (q := 12) B fl_R_38 rfl d_R_clearSector_9 (by assumption) (by assumption) rfl ?_
        refine ax_iload_n (q := 13) B d_R_clearSector_12 rfl rfl rfl ?_
        refine ax_iconst (v := nI 0) (q := 14) B d_R_clearSector_13 ci_0 rfl ?_
        refine ax_iastN (q := 15) B d_R_clearSector_14 (by assumption) rfl (by omega) (by omega) rfl ?_
        refine ax_iincN (j := 1) (q := 18) B d_R_clearSector_15 rfl ii_1 (by decide) rfl ?_
        refine ax_goto (q := 2) B d_R_clearSector_18 rfl ?_
        refine ih (j + 1) _ (by omega) (fun i hi => ?_) (fun q hq => (aw_u_ne hq).trans (g2 q hq))
        by_cases hij : i = j
        · subst hij; exact aw_rs
        · exact aw_rd (by omega) (g1 i (by omega))
  refine ax_iconst (v := nI 0) (q := 1) B d_R_clearSector_0 ci_0 rfl ?_
  refine ax_istore_n (q := 2) B d_R_clearSector_1 rfl (by decide) rfl ?_
  exact loop 16 0 h rfl (fun i hi => absurd hi (by omega)) (fun q _ => rfl)
theorem r_isKind {l : Launch} {G : aw_G} (hG : gr G) {h : aw_H} {t : pz_T} (hT : rt t h) (x : Int32) {a : Nat} (ha : a < 65536) : aw_I l G 0 Y_R_isKind [.inl (some 40), .inr x, .inr (nI a)] h (.inr (bI (pz_nd t (fun c => c == a) x).isSome)) := by
  refine aw_met hG.1.1 (by decide) (Nat.le_of_ble_eq_true rfl) (fun M hM B E => ?_)
  show aw_X M G 3 0 [some (.inl (some 40)), some (.inr x), some (.inr (nI a))] [] h
  have i40 := hG.i40
  have a42 := hG.a42
  have r5 : aw_rM 40 5 = some 42 := rfl
  cases hx : pz_small x 8 with
  | false =>
    have hnd : pz_nd t (fun c => c == a) x = none := if_neg (by rw [pz_no_8 hx]; omega)
    rw [hnd] at E
    refine ax_iload_n (q := 1) B d_R_isKind_0 rfl rfl rfl ?_
    refine ax_if_lt (q := 24) (q2 := 4) B d_R_isKind_1 rfl rfl (fun h1 => ?_) (fun h1 => ?_)
    · refine ax_iconst (v := nI 0) (q := 25) B d_R_isKind_24 ci_0 rfl ?_
      refine ax_zret B E (by first | exact bI_or _ | decide) d_R_isKind_25 ?_
      exact ⟨rfl, rfl⟩
    · refine ax_iload_n (q := 5) B d_R_isKind_4 rfl rfl rfl ?_
      refine ax_bipush (v := nI 8) (q := 7) B d_R_isKind_5 cb_8 rfl ?_
      refine ax_icmp_ge (q := 24) (q2 := 10) B d_R_isKind_7 rfl rfl (fun h7 => ?_) (fun h7 => ?_)
      · refine ax_iconst (v := nI 0) (q := 25) B d_R_isKind_24 ci_0 rfl ?_
        refine ax_zret B E (by first | exact bI_or _ | decide) d_R_isKind_25 ?_
        exact ⟨rfl, rfl⟩
      · rw [pz_small_t h1 h7] at hx
        cases hx
  | true =>
    obtain ⟨j, hj, rfl⟩ := pz_small_e (by omega) hx
    obtain ⟨ej, -, -, hkd, -⟩ := hT j hj
    have hnd : pz_nd t (fun c => c == a) (nI j) = if pz_kd t j = a then some j else none := by
      unfold pz_nd
      rw [pz_no_N hj]
      by_cases hk : pz_kd t j = a
      · rw [if_pos hk, if_pos ⟨hj, beq_iff_eq.mpr hk⟩]
      · rw [if_neg hk, if_neg (fun z => hk (beq_iff_eq.mp z.2))]
    rw [hnd] at E
    refine ax_iload_n (q := 1) B d_R_isKind_0 rfl rfl rfl ?_
    refine ax_ifN_lt (q := 24) (q2 := 4) B (by omega) d_R_isKind_1 rfl rfl ?_
    refine ax_iload_n (q := 5) B d_R_isKind_4 rfl rfl rfl ?_
    refine ax_bipush (v := nI 8) (q := 7) B d_R_isKind_5 cb_8 rfl ?_
    refine ax_icmpN_ge (q := 24) (q2 := 10) B (by omega) (by omega) d_R_isKind_7 rfl rfl (fun h7 => ?_) (fun h7 => ?_)
    · first | (exfalso; omega) | (rw [if_neg h17] at E; refine ax_iconst (v := nI 0) (q := 25) B d_R_isKind_24 ci_0 rfl ?_; exact ax_zret B E (by decide) d_R_isKind_25 ⟨rfl, rfl⟩)
    · refine ax_aload_n (q := 11) B d_R_isKind_10 rfl rfl rfl ?_
      refine ax_getP (q := 14) B fl_R_13 rfl d_R_isKind_11 (by assumption) (by assumption) rfl ?_
      refine ax_iload_n (q := 15) B d_R_isKind_14 rfl rfl rfl ?_
      refine ax_ialdN (q := 16) B d_R_isKind_15 (by assumption) rfl (by omega) (by omega) (by first | assumption | rfl) rfl ?_
      refine ax_iload_n (q := 17) B d_R_isKind_16 rfl rfl rfl ?_
      refine ax_icmpN_ne (q := 24) (q2 := 20) B (by omega) (by omega) d_R_isKind_17 rfl rfl (fun h17 => ?_) (fun h17 => ?_)
      · first | (exfalso; omega) | (rw [if_neg h17] at E; refine ax_iconst (v := nI 0) (q := 25) B d_R_isKind_24 ci_0 rfl ?_; exact ax_zret B E (by decide) d_R_isKind_25 ⟨rfl, rfl⟩)
      · rw [if_pos h17] at E
        refine ax_iconst (v := nI 1) (q := 21) B d_R_isKind_20 ci_1 rfl ?_
        refine ax_goto (q := 25) B d_R_isKind_21 rfl ?_
        refine ax_zret B E (by first | exact bI_or _ | decide) d_R_isKind_25 ?_
        exact ⟨rfl, rfl⟩
theorem r_itemOf {l : Launch} {G : aw_G} (hG : gr G) {h : aw_H} {t : pz_T} (hT : rt t h) {d : Nat} (hd : d < 8) (x : Int32) : aw_I l G 0 Y_R_itemOf [.inl (some 40), .inr (nI d), .inr x] h (.inr (oI (pz_ix (pz_it t d) x (pz_ct t d)))) := by
  refine aw_met hG.1.1 (by decide) (Nat.le_of_ble_eq_true rfl) (fun M hM B E => ?_)
  show aw_X M G 4 0 [some (.inl (some 40)), some (.inr (nI d)), some (.inr x), none] [] h
  have i40 := hG.i40
  have a43 := hG.a43
  have a44 := hG.a44
  have r6 : aw_rM 40 6 = some 43 := rfl
  have r7 : aw_rM 40 7 = some 44 := rfl
  obtain ⟨-, e3, -, -, hc, hf, -⟩ := hT d hd
  have loop : ∀ m j, j + m = pz_ct t d → pz_ix (pz_it t d) x j = none → aw_X M G 4 2 [some (.inl (some 40)), some (.inr (nI d)), some (.inr x), some (.inr (nI j))] [] h := by
    intro m
    induction m with
    | zero =>
      intro j hj hn
      have hj : j = pz_ct t d := by omega
      subst hj
      refine ax_iload_n (q := 3) B d_R_itemOf_2 rfl rfl rfl ?_
      refine ax_aload_n (q := 4) B d_R_itemOf_3 rfl rfl rfl ?_
      refine ax_getP (q := 7) B fl_R_16 rfl d_R_itemOf_4 (by assumption) (by assumption) rfl ?_
      refine ax_iload_n (q := 8) B d_R_itemOf_7 rfl rfl rfl ?_
      refine ax_ialdN (q := 9) B d_R_itemOf_8 (by assumption) rfl (by omega) (by omega) (by first | assumption | rfl) rfl ?_
      refine ax_icmpN_ge (q := 38) (q2 := 12) B (by omega) (by omega) d_R_itemOf_9 rfl rfl (fun h9 => ?_) (fun h9 => ?_)
      · refine ax_iconst (v := (-1)) (q := 39) B d_R_itemOf_38 ci_m1 rfl ?_
        refine ax_iret B E d_R_itemOf_39 ?_
        exact ⟨by rw [hn]; rfl, rfl⟩
      · omega
    | succ m ih =>
      intro j hj hn
      obtain ⟨ej, hfj⟩ := hf j (by omega)
      have hx : pz_ix (pz_it t d) x (j + 1) = if nI (pz_it t d j / 16) = x then some j else none := by
        show (match pz_ix (pz_it t d) x j with | some i => some i | none => if nI (pz_it t d j / 16) = x then some j else none) = _
        rw [hn]
      refine ax_iload_n (q := 3) B d_R_itemOf_2 rfl rfl rfl ?_
      refine ax_aload_n (q := 4) B d_R_itemOf_3 rfl rfl rfl ?_
      refine ax_getP (q := 7) B fl_R_16 rfl d_R_itemOf_4 (by assumption) (by assumption) rfl ?_
      refine ax_iload_n (q := 8) B d_R_itemOf_7 rfl rfl rfl ?_
      refine ax_ialdN (q := 9) B d_R_itemOf_8 (by assumption) rfl (by omega) (by omega) (by first | assumption | rfl) rfl ?_
      refine ax_icmpN_ge (q := 38) (q2 := 12) B (by omega) (by omega) d_R_itemOf_9 rfl rfl (fun h9 => ?_) (fun h9 => ?_)
      · omega
      · refine ax_aload_n (q := 13) B d_R_itemOf_12 rfl rfl rfl ?_
        refine ax_getP (q := 16) B fl_R_19 rfl d_R_itemOf_13 (by assumption) (by assumption) rfl ?_
        refine ax_bipush (v := nI 10) (q := 18) B d_R_itemOf_16 cb_10 rfl ?_
        refine ax_iload_n (q := 19) B d_R_itemOf_18 rfl rfl rfl ?_
        first | refine ax_imulN (q := 20) B d_R_itemOf_19 rfl ?_ | refine ax_imul (q := 20) B d_R_itemOf_19 rfl ?_
        refine ax_iload_n (q := 21) B d_R_itemOf_20 rfl rfl rfl ?_
        first | refine ax_iaddN (q := 22) B d_R_itemOf_21 rfl ?_ | refine ax_iadd (q := 22) B d_R_itemOf_21 rfl ?_
        refine ax_ialdN (q := 23) B d_R_itemOf_22 (by assumption) rfl (by omega) (by omega) (by first | assumption | rfl) rfl ?_
        refine ax_bipush (v := nI 16) (q := 25) B d_R_itemOf_23 cb_16 rfl ?_
        refine ax_idivN (q := 26) B (by omega) (by omega) (by omega) d_R_itemOf_25 rfl ?_
        refine ax_iload_n (q := 27) B d_R_itemOf_26 rfl rfl rfl ?_
        refine ax_icmp_ne (q := 32) (q2 := 30) B d_R_itemOf_27 rfl rfl (fun h27 => ?_) (fun h27 => ?_)
        · refine ax_iincN (j := 1) (q := 35) B d_R_itemOf_32 rfl ii_1 (by decide) rfl ?_
          refine ax_goto (q := 2) B d_R_itemOf_35 rfl ?_
          exact ih (j + 1) (by omega) (by rw [hx, if_neg h27])
        · refine ax_iload_n (q := 31) B d_R_itemOf_30 rfl rfl rfl ?_
          refine ax_iret B E d_R_itemOf_31 ?_
          exact ⟨by rw [pz_ix_mono (hx.trans (if_pos h27)) (by omega)]; rfl, rfl⟩
  refine ax_iconst (v := nI 0) (q := 1) B d_R_itemOf_0 ci_0 rfl ?_
  refine ax_istore_n (q := 2) B d_R_itemOf_1 rfl (by decide) rfl ?_
  exact loop (pz_ct t d) 0 (by omega) rfl
theorem r_add {l : Launch} {G : aw_G} (hG : gr G) {h : aw_H} {t : pz_T} (hT : rt t h) {d v : Nat} (hd : d < 8) (hc : pz_ct t d < 10) (hv : v < 65536) : aw_P l G 0 Y_R_add [.inl (some 40), .inr (nI d), .inr (nI v)] h (fun h' => rt (pz_add t d v) h' ∧ ∀ q, q < 43 ∨ 46 ≤ q → h' q = h q) := by
  refine aw_met hG.1.1 (by decide) (Nat.le_of_ble_eq_true rfl) (fun M hM B E => ?_)
  show aw_X M G 3 0 [some (.inl (some 40)), some (.inr (nI d)), some (.inr (nI v))] [] h
  have i40 := hG.i40
  have a43 := hG.a43
  have a44 := hG.a44
  have a45 := hG.a45
  have r6 : aw_rM 40 6 = some 43 := rfl
  have r7 : aw_rM 40 7 = some 44 := rfl
  have r8 : aw_rM 40 8 = some 45 := rfl
  have e3 := (hT d hd).2.1
  have e3' : aw_u h 44 (10 * d + pz_ct t d) (nI v) 43 d = nI (pz_ct t d) := aw_rd (by omega) e3
  have fin : rt (pz_add t d v) (aw_u (aw_u (aw_u h 44 (10 * d + pz_ct t d) (nI v)) 43 d (nI (pz_ct t d + 1))) 45 d (nI 1)) := fun i hi => by
    obtain ⟨b1, b2, b3, b4, b5, b6, b7⟩ := hT i hi
    by_cases hid : i = d
    · subst hid
      have q2 : pz_ct (pz_add t i v) i = pz_ct t i + 1 := pz_up_s
      have q3 : pz_ch (pz_add t i v) i = true := pz_up_s
      unfold rtN
      rw [q2, q3]
      refine ⟨aw_rd (by omega) (aw_rd (by omega) (aw_rd (by omega) b1)), aw_rd (by omega) aw_rs, aw_rs, b4, by omega, fun j hj => ?_, fun _ z => by cases z⟩
      have q4 : pz_it (pz_add t i v) i j = pz_up (pz_it t i) (pz_ct t i) v j := by
        show pz_up (pz_it t) i (pz_up (pz_it t i) (pz_ct t i) v) i j = _
        rw [pz_up_s]
      rw [q4]
      by_cases hj2 : j = pz_ct t i
      · subst hj2
        rw [pz_up_s]
        exact ⟨aw_rd (by omega) (aw_rd (by omega) aw_rs), hv⟩
      · rw [pz_up_n hj2]
        exact ⟨aw_rd (by omega) (aw_rd (by omega) (aw_rd (by omega) (b6 j (by omega)).1)), (b6 j (by omega)).2⟩
    · have q2 : pz_ct (pz_add t d v) i = pz_ct t i := pz_up_n hid
      have q3 : pz_ch (pz_add t d v) i = pz_ch t i := pz_up_n hid
      have q4 : ∀ j, pz_it (pz_add t d v) i j = pz_it t i j := fun j => by
        show pz_up (pz_it t) d _ i j = _
        rw [pz_up_n hid]
      unfold rtN
      rw [q2, q3]
      exact ⟨aw_rd (by omega) (aw_rd (by omega) (aw_rd (by omega) b1)), aw_rd (by omega) (aw_rd (by omega) (aw_rd (by omega) b2)), aw_rd (by omega) (aw_rd (by omega) (aw_rd (by omega) b3)), b4, b5, fun j hj => by rw [q4 j]; exact ⟨aw_rd (by omega) (aw_rd (by omega) (aw_rd (by omega) (b6 j hj).1)), (b6 j hj).2⟩, fun z1 z2 => aw_rd (by omega) (aw_rd (by omega) (aw_rd (by omega) (b7 z1 z2)))⟩
  refine ax_aload_n (q := 1) B d_R_add_0 rfl rfl rfl ?_
  refine ax_getP (q := 4) B fl_R_19 rfl d_R_add_1 (by assumption) (by assumption) rfl ?_
  refine ax_bipush (v := nI 10) (q := 6) B d_R_add_4 cb_10 rfl ?_
  refine ax_iload_n (q := 7) B d_R_add_6 rfl rfl rfl ?_
  first | refine ax_imulN (q := 8) B d_R_add_7 rfl ?_ | refine ax_imul (q := 8) B d_R_add_7 rfl ?_
  refine ax_aload_n (q := 9) B d_R_add_8 rfl rfl rfl ?_
  refine ax_getP (q := 12) B fl_R_16 rfl d_R_add_9 (by assumption) (by assumption) rfl ?_
  refine ax_iload_n (q := 13) B d_R_add_12 rfl rfl rfl ?_
  refine ax_ialdN (q := 14) B d_R_add_13 (by assumption) rfl (by omega) (by omega) (by first | assumption | rfl) rfl ?_
  first | refine ax_iaddN (q := 15) B d_R_add_14 rfl ?_ | refine ax_iadd (q := 15) B d_R_add_14 rfl ?_
  refine ax_iload_n (q := 16) B d_R_add_15 rfl rfl rfl ?_
  refine ax_iastN (q := 17) B d_R_add_16 (by assumption) rfl (by omega) (by omega) rfl ?_
  refine ax_aload_n (q := 18) B d_R_add_17 rfl rfl rfl ?_
  refine ax_getP (q := 21) B fl_R_16 rfl d_R_add_18 (by assumption) (by assumption) rfl ?_
  refine ax_iload_n (q := 22) B d_R_add_21 rfl rfl rfl ?_
  refine ax_aload_n (q := 23) B d_R_add_22 rfl rfl rfl ?_
  refine ax_getP (q := 26) B fl_R_16 rfl d_R_add_23 (by assumption) (by assumption) rfl ?_
  refine ax_iload_n (q := 27) B d_R_add_26 rfl rfl rfl ?_
  refine ax_ialdN (q := 28) B d_R_add_27 (by assumption) rfl (by omega) (by omega) e3' rfl ?_
  refine ax_iconst (v := nI 1) (q := 29) B d_R_add_28 ci_1 rfl ?_
  first | refine ax_iaddN (q := 30) B d_R_add_29 rfl ?_ | refine ax_iadd (q := 30) B d_R_add_29 rfl ?_
  refine ax_iastN (q := 31) B d_R_add_30 (by assumption) rfl (by omega) (by omega) rfl ?_
  refine ax_aload_n (q := 32) B d_R_add_31 rfl rfl rfl ?_
  refine ax_getP (q := 35) B fl_R_22 rfl d_R_add_32 (by assumption) (by assumption) rfl ?_
  refine ax_iload_n (q := 36) B d_R_add_35 rfl rfl rfl ?_
  refine ax_iconst (v := nI 1) (q := 37) B d_R_add_36 ci_1 rfl ?_
  refine ax_zastN (q := 38) B d_R_add_37 (by assumption) rfl (by omega) (by omega) (by first | exact bI_or _ | decide) rfl ?_
  refine ax_vret B E d_R_add_38 ?_
  exact ⟨rfl, fin, fun q hq => by rw [aw_u_ne (by omega), aw_u_ne (by omega), aw_u_ne (by omega)]⟩
theorem r_take {l : Launch} {G : aw_G} (hG : gr G) {h : aw_H} {t : pz_T} (hT : rt t h) {d i : Nat} (hd : d < 8) (hi : i < pz_ct t d) : aw_P l G 0 Y_R_take [.inl (some 40), .inr (nI d), .inr (nI i)] h (fun h' => rt (pz_take t d i) h' ∧ ∀ q, q < 43 ∨ 46 ≤ q → h' q = h q) := by
  refine aw_met hG.1.1 (by decide) (Nat.le_of_ble_eq_true rfl) (fun M hM B E => ?_)
  show aw_X M G 4 0 [some (.inl (some 40)), some (.inr (nI d)), some (.inr (nI i)), none] [] h
  have i40 := hG.i40
  have a43 := hG.a43
  have a44 := hG.a44
  have a45 := hG.a45
  have r6 : aw_rM 40 6 = some 43 := rfl
  have r7 : aw_rM 40 7 = some 44 := rfl
  have r8 : aw_rM 40 8 = some 45 := rfl
  obtain ⟨-, e3, -, -, hc, -, -⟩ := hT d hd
  have loop : ∀ m j (f : aw_H), j + m + 1 = pz_ct t d → i ≤ j → (∀ s, s < j → f 44 (10 * d + s) = if s < i then h 44 (10 * d + s) else h 44 (10 * d + s + 1)) → (∀ x, (x < 10 * d ∨ 10 * d + j ≤ x) → f 44 x = h 44 x) → (∀ q, q ≠ 44 → f q = h q) → aw_X M G 4 2 [some (.inl (some 40)), some (.inr (nI d)), some (.inr (nI i)), some (.inr (nI j))] [] f := by
    intro m
    induction m with
    | zero =>
      intro j f hj hij g4 g5 g6
      have f3 : f 43 d = nI (pz_ct t d) := by rw [g6 43 (by omega)]; exact e3
      have fin : rt (pz_take t d i) (aw_u (aw_u f 43 d (nI (pz_ct t d - 1))) 45 d (nI 1)) := fun n hn => by
        obtain ⟨b1, b2, b3, b4, b5, b6, b7⟩ := hT n hn
        have c1 : f 42 n = nI (pz_kd t n) := by rw [g6 42 (by omega)]; exact b1
        by_cases hid : n = d
        · subst hid
          have q2 : pz_ct (pz_take t n i) n = pz_ct t n - 1 := pz_up_s
          have q3 : pz_ch (pz_take t n i) n = true := pz_up_s
          unfold rtN
          rw [q2, q3]
          refine ⟨aw_rd (by omega) (aw_rd (by omega) c1), aw_rd (by omega) aw_rs, aw_rs, b4, by omega, fun s hs => ?_, fun _ z => by cases z⟩
          have q4 : pz_it (pz_take t n i) n s = if s < i then pz_it t n s else pz_it t n (s + 1) := by
            show pz_up (pz_it t) n (fun s => if s < i then pz_it t n s else pz_it t n (s + 1)) n s = _
            rw [pz_up_s]
          rw [q4]
          have q5 := g4 s (by omega)
          by_cases hsi : s < i
          · rw [if_pos hsi] at q5 ⊢
            exact ⟨aw_rd (by omega) (aw_rd (by omega) (q5.trans (b6 s (by omega)).1)), (b6 s (by omega)).2⟩
          · rw [if_neg hsi] at q5 ⊢
            exact ⟨aw_rd (by omega) (aw_rd (by omega) (q5.trans (b6 (s + 1) (by omega)).1)), (b6 (s + 1) (by omega)).2⟩
        · have q2 : pz_ct (pz_take t d i) n = pz_ct t n := pz_up_n hid
          have q3 : pz_ch (pz_take t d i) n = pz_ch t n := pz_up_n hid
          have q4 : ∀ s, pz_it (pz_take t d i) n s = pz_it t n s := fun s => by
            show pz_up (pz_it t) d _ n s = _
            rw [pz_up_n hid]
          have c2 : f 43 n = nI (pz_ct t n) := by rw [g6 43 (by omega)]; exact b2
          have c3 : f 45 n = bI (pz_ch t n) := by rw [g6 45 (by omega)]; exact b3
          have c7 : pz_kd t n ≠ 0 → pz_ch t n = false → f 46 n = nI (pz_en t n) + (-1) := by rw [g6 46 (by omega)]; exact b7
          unfold rtN
          rw [q2, q3]
          refine ⟨aw_rd (by omega) (aw_rd (by omega) c1), aw_rd (by omega) (aw_rd (by omega) c2), aw_rd (by omega) (aw_rd (by omega) c3), b4, b5, fun s hs => ?_, fun z1 z2 => aw_rd (by omega) (aw_rd (by omega) (c7 z1 z2))⟩
          rw [q4 s]
          exact ⟨aw_rd (by omega) (aw_rd (by omega) ((g5 _ (by omega)).trans (b6 s hs).1)), (b6 s hs).2⟩
      refine ax_iload_n (q := 3) B d_R_take_2 rfl rfl rfl ?_
      refine ax_iconst (v := nI 1) (q := 4) B d_R_take_3 ci_1 rfl ?_
      first | refine ax_iaddN (q := 5) B d_R_take_4 rfl ?_ | refine ax_iadd (q := 5) B d_R_take_4 rfl ?_
      refine ax_aload_n (q := 6) B d_R_take_5 rfl rfl rfl ?_
      refine ax_getP (q := 9) B fl_R_16 rfl d_R_take_6 (by assumption) (by assumption) rfl ?_
      refine ax_iload_n (q := 10) B d_R_take_9 rfl rfl rfl ?_
      refine ax_ialdN (q := 11) B d_R_take_10 (by assumption) rfl (by omega) (by omega) (by first | assumption | rfl) rfl ?_
      refine ax_icmpN_ge (q := 44) (q2 := 14) B (by omega) (by omega) d_R_take_11 rfl rfl (fun h11 => ?_) (fun h11 => ?_)
      · refine ax_aload_n (q := 45) B d_R_take_44 rfl rfl rfl ?_
        refine ax_getP (q := 48) B fl_R_16 rfl d_R_take_45 (by assumption) (by assumption) rfl ?_
        refine ax_iload_n (q := 49) B d_R_take_48 rfl rfl rfl ?_
        refine ax_aload_n (q := 50) B d_R_take_49 rfl rfl rfl ?_
        refine ax_getP (q := 53) B fl_R_16 rfl d_R_take_50 (by assumption) (by assumption) rfl ?_
        refine ax_iload_n (q := 54) B d_R_take_53 rfl rfl rfl ?_
        refine ax_ialdN (q := 55) B d_R_take_54 (by assumption) rfl (by omega) (by omega) (by first | assumption | rfl) rfl ?_
        refine ax_iconst (v := nI 1) (q := 56) B d_R_take_55 ci_1 rfl ?_
        refine ax_isubN (q := 57) B (by omega) d_R_take_56 rfl ?_
        refine ax_iastN (q := 58) B d_R_take_57 (by assumption) rfl (by omega) (by omega) rfl ?_
        refine ax_aload_n (q := 59) B d_R_take_58 rfl rfl rfl ?_
        refine ax_getP (q := 62) B fl_R_22 rfl d_R_take_59 (by assumption) (by assumption) rfl ?_
        refine ax_iload_n (q := 63) B d_R_take_62 rfl rfl rfl ?_
        refine ax_iconst (v := nI 1) (q := 64) B d_R_take_63 ci_1 rfl ?_
        refine ax_zastN (q := 65) B d_R_take_64 (by assumption) rfl (by omega) (by omega) (by first | exact bI_or _ | decide) rfl ?_
        refine ax_vret B E d_R_take_65 ?_
        exact ⟨rfl, fin, fun q hq => by rw [aw_u_ne (by omega), aw_u_ne (by omega)]; exact g6 q (by omega)⟩
      · omega
    | succ m ih =>
      intro j f hj hij g4 g5 g6
      have f3 : f 43 d = nI (pz_ct t d) := by rw [g6 43 (by omega)]; exact e3
      have f4 : f 44 (10 * d + j + 1) = h 44 (10 * d + j + 1) := g5 _ (by omega)
      refine ax_iload_n (q := 3) B d_R_take_2 rfl rfl rfl ?_
      refine ax_iconst (v := nI 1) (q := 4) B d_R_take_3 ci_1 rfl ?_
      first | refine ax_iaddN (q := 5) B d_R_take_4 rfl ?_ | refine ax_iadd (q := 5) B d_R_take_4 rfl ?_
      refine ax_aload_n (q := 6) B d_R_take_5 rfl rfl rfl ?_
      refine ax_getP (q := 9) B fl_R_16 rfl d_R_take_6 (by assumption) (by assumption) rfl ?_
      refine ax_iload_n (q := 10) B d_R_take_9 rfl rfl rfl ?_
      refine ax_ialdN (q := 11) B d_R_take_10 (by assumption) rfl (by omega) (by omega) (by first | assumption | rfl) rfl ?_
      refine ax_icmpN_ge (q := 44) (q2 := 14) B (by omega) (by omega) d_R_take_11 rfl rfl (fun h11 => ?_) (fun h11 => ?_)
      · omega
      · refine ax_aload_n (q := 15) B d_R_take_14 rfl rfl rfl ?_
        refine ax_getP (q := 18) B fl_R_19 rfl d_R_take_15 (by assumption) (by assumption) rfl ?_
        refine ax_bipush (v := nI 10) (q := 20) B d_R_take_18 cb_10 rfl ?_
        refine ax_iload_n (q := 21) B d_R_take_20 rfl rfl rfl ?_
        first | refine ax_imulN (q := 22) B d_R_take_21 rfl ?_ | refine ax_imul (q := 22) B d_R_take_21 rfl ?_
        refine ax_iload_n (q := 23) B d_R_take_22 rfl rfl rfl ?_
        first | refine ax_iaddN (q := 24) B d_R_take_23 rfl ?_ | refine ax_iadd (q := 24) B d_R_take_23 rfl ?_
        refine ax_aload_n (q := 25) B d_R_take_24 rfl rfl rfl ?_
        refine ax_getP (q := 28) B fl_R_19 rfl d_R_take_25 (by assumption) (by assumption) rfl ?_
        refine ax_bipush (v := nI 10) (q := 30) B d_R_take_28 cb_10 rfl ?_
        refine ax_iload_n (q := 31) B d_R_take_30 rfl rfl rfl ?_
        first | refine ax_imulN (q := 32) B d_R_take_31 rfl ?_ | refine ax_imul (q := 32) B d_R_take_31 rfl ?_
        refine ax_iload_n (q := 33) B d_R_take_32 rfl rfl rfl ?_
        first | refine ax_iaddN (q := 34) B d_R_take_33 rfl ?_ | refine ax_iadd (q := 34) B d_R_take_33 rfl ?_
        refine ax_iconst (v := nI 1) (q := 35) B d_R_take_34 ci_1 rfl ?_
        first | refine ax_iaddN (q := 36) B d_R_take_35 rfl ?_ | refine ax_iadd (q := 36) B d_R_take_35 rfl ?_
        refine ax_ialdN (q := 37) B d_R_take_36 (by assumption) rfl (by omega) (by omega) (by first | assumption | rfl) rfl ?_
        refine ax_iastN (q := 38) B d_R_take_37 (by assumption) rfl (by omega) (by omega) rfl ?_
        refine ax_iincN (j := 1) (q := 41) B d_R_take_38 rfl ii_1 (by decide) rfl ?_
        refine ax_goto (q := 2) B d_R_take_41 rfl ?_
        refine ih (j + 1) _ (by omega) (by omega) (fun s hs => ?_) (fun x hx => aw_rd (by omega) (g5 x (by omega))) (fun q hq => (aw_u_ne hq).trans (g6 q hq))
        by_cases hsj : s = j
        · subst hsj; rw [if_neg (by omega)]; exact aw_rs
        · exact aw_rd (by omega) (g4 s (by omega))
  refine ax_iload_n (q := 1) B d_R_take_0 rfl rfl rfl ?_
  refine ax_istore_n (q := 2) B d_R_take_1 rfl (by decide) rfl ?_
  exact loop (pz_ct t d - 1 - i) i h (by omega) (Nat.le_refl _) (fun s hs => by rw [if_pos hs]) (fun x _ => rfl) (fun q _ => rfl)
