theorem pz_nd_k {t : pz_T} {P : Nat → Bool} (hP : P 0 = false) (x : Int32) : pz_nd t P x = (pz_nd t (fun a => a != 0) x).bind (fun i => if P (pz_kd t i) = true then some i else none) := by
  unfold pz_nd
  by_cases h1 : pz_no x < 8
  · by_cases h2 : pz_kd t (pz_no x) = 0
    · rw [if_neg (fun z => by rw [h2, hP] at z; cases z.2), if_neg (fun z => by rw [h2] at z; cases z.2)]
      rfl
    · rw [if_pos (show pz_no x < 8 ∧ (pz_kd t (pz_no x) != 0) = true from ⟨h1, by simp [h2]⟩)]
      show _ = if P (pz_kd t (pz_no x)) = true then some (pz_no x) else none
      by_cases h3 : P (pz_kd t (pz_no x)) = true
      · rw [if_pos ⟨h1, h3⟩, if_pos h3]
      · rw [if_neg (fun z => h3 z.2), if_neg h3]
  · rw [if_neg (fun z => h1 z.1), if_neg (fun z => h1 z.1)]
    rfl
theorem pz_nd_lt {t : pz_T} {P : Nat → Bool} {x : Int32} {i : Nat} (h : pz_nd t P x = some i) : i < 8 ∧ P (pz_kd t i) = true ∧ i = pz_no x := by
  unfold pz_nd at h
  by_cases h1 : pz_no x < 8 ∧ P (pz_kd t (pz_no x)) = true
  · rw [if_pos h1] at h
    cases h
    exact ⟨h1.1, h1.2, rfl⟩
  · rw [if_neg h1] at h
    cases h
theorem k_directoryAt {l : Launch} {G : aw_G} (hG : aw_ok G) {tb : Nat} (ht : tz G tb) {h : aw_H} {t : pz_T} (hT : hz_T tb t h) (x : Int32) : aw_I l G 1 Y_T_directoryAt [.inl (some tb), .inr x] h (.inl ((pz_nd t (fun a => a == 1) x).map (fun i => tb + 2 + 2 * i))) := by
  refine aw_met hG (by decide) (Nat.le_of_ble_eq_true rfl) (fun M hM B E => ?_)
  show aw_X M G 3 0 [some (.inl (some tb)), some (.inr x), none] [] h
  have hC := k_nodeAt (l := M.2.1) hG ht hT x
  have hk := pz_nd_k (t := t) (P := fun a => a == 1) rfl x
  have it := ht.2.1
  refine ax_aload_n (q := 1) B d_T_directoryAt_0 rfl rfl rfl ?_
  refine ax_iload_n (q := 2) B d_T_directoryAt_1 rfl rfl rfl ?_
  refine ax_qV1 (q := 5) B cv_T_42 d_T_directoryAt_2 (by assumption) (Nat.le_of_ble_eq_true rfl) (by decide) hC rfl ?_
  cases hx : pz_nd t (fun a => a != 0) x with
  | none =>
    rw [hx] at hk
    rw [hk] at E
    refine ax_astore_n (q := 6) B d_T_directoryAt_5 rfl (by decide) rfl ?_
    refine ax_aload_n (q := 7) B d_T_directoryAt_6 rfl rfl rfl ?_
    refine ax_ifnull (q := 22) (q2 := 10) B d_T_directoryAt_7 rfl rfl (fun h7 => ?_) (fun _ h7 => ?_)
    · refine ax_null (q := 23) B d_T_directoryAt_22 rfl ?_
      refine ax_aret B E d_T_directoryAt_23 ?_
      exact ⟨rfl, rfl⟩
    · cases h7
  | some j =>
    obtain ⟨hj, -, -⟩ := pz_nd_lt hx
    rw [hx] at hk
    have hk : pz_nd t (fun a => a == 1) x = if (pz_kd t j == 1) = true then some j else none := hk
    rw [hk] at E
    have ij := (ht.2.2.2.2 j hj).2.1
    obtain ⟨ej, -, -, -, hkd, -⟩ := hT j hj
    show aw_X M G 3 5 [some (.inl (some tb)), some (.inr x), none] [.inl (some (tb + 2 + 2 * j))] h
    refine ax_astore_n (q := 6) B d_T_directoryAt_5 rfl (by decide) rfl ?_
    refine ax_aload_n (q := 7) B d_T_directoryAt_6 rfl rfl rfl ?_
    refine ax_ifnull (q := 22) (q2 := 10) B d_T_directoryAt_7 rfl rfl (fun h7 => ?_) (fun _ h7 => ?_)
    · first | (cases h7; done) | (rw [if_neg (by rw [pz_beq_ne h15]; decide)] at E; refine ax_null (q := 23) B d_T_directoryAt_22 rfl ?_; exact ax_aret B E d_T_directoryAt_23 ⟨rfl, rfl⟩)
    · refine ax_aload_n (q := 11) B d_T_directoryAt_10 rfl rfl rfl ?_
      refine ax_getN (q := 14) B fl_T_38 rfl d_T_directoryAt_11 (by assumption) (by first | assumption | rfl) rfl ?_
      refine ax_iconst (v := nI 1) (q := 15) B d_T_directoryAt_14 ci_1 rfl ?_
      refine ax_icmpN_ne (q := 22) (q2 := 18) B (by omega) (by omega) d_T_directoryAt_15 rfl rfl (fun h15 => ?_) (fun h15 => ?_)
      · first | (cases h7; done) | (rw [if_neg (by rw [pz_beq_ne h15]; decide)] at E; refine ax_null (q := 23) B d_T_directoryAt_22 rfl ?_; exact ax_aret B E d_T_directoryAt_23 ⟨rfl, rfl⟩)
      · rw [if_pos (by rw [h15]; rfl)] at E
        refine ax_aload_n (q := 19) B d_T_directoryAt_18 rfl rfl rfl ?_
        refine ax_goto (q := 23) B d_T_directoryAt_19 rfl ?_
        refine ax_aret B E d_T_directoryAt_23 ?_
        exact ⟨rfl, rfl⟩
theorem k_fileAt {l : Launch} {G : aw_G} (hG : aw_ok G) {tb : Nat} (ht : tz G tb) {h : aw_H} {t : pz_T} (hT : hz_T tb t h) (x : Int32) : aw_I l G 1 Y_T_fileAt [.inl (some tb), .inr x] h (.inl ((pz_nd t (fun a => a == 2) x).map (fun i => tb + 2 + 2 * i))) := by
  refine aw_met hG (by decide) (Nat.le_of_ble_eq_true rfl) (fun M hM B E => ?_)
  show aw_X M G 3 0 [some (.inl (some tb)), some (.inr x), none] [] h
  have hC := k_nodeAt (l := M.2.1) hG ht hT x
  have hk := pz_nd_k (t := t) (P := fun a => a == 2) rfl x
  have it := ht.2.1
  refine ax_aload_n (q := 1) B d_T_fileAt_0 rfl rfl rfl ?_
  refine ax_iload_n (q := 2) B d_T_fileAt_1 rfl rfl rfl ?_
  refine ax_qV1 (q := 5) B cv_T_42 d_T_fileAt_2 (by assumption) (Nat.le_of_ble_eq_true rfl) (by decide) hC rfl ?_
  cases hx : pz_nd t (fun a => a != 0) x with
  | none =>
    rw [hx] at hk
    rw [hk] at E
    refine ax_astore_n (q := 6) B d_T_fileAt_5 rfl (by decide) rfl ?_
    refine ax_aload_n (q := 7) B d_T_fileAt_6 rfl rfl rfl ?_
    refine ax_ifnull (q := 22) (q2 := 10) B d_T_fileAt_7 rfl rfl (fun h7 => ?_) (fun _ h7 => ?_)
    · refine ax_null (q := 23) B d_T_fileAt_22 rfl ?_
      refine ax_aret B E d_T_fileAt_23 ?_
      exact ⟨rfl, rfl⟩
    · cases h7
  | some j =>
    obtain ⟨hj, -, -⟩ := pz_nd_lt hx
    rw [hx] at hk
    have hk : pz_nd t (fun a => a == 2) x = if (pz_kd t j == 2) = true then some j else none := hk
    rw [hk] at E
    have ij := (ht.2.2.2.2 j hj).2.1
    obtain ⟨ej, -, -, -, hkd, -⟩ := hT j hj
    show aw_X M G 3 5 [some (.inl (some tb)), some (.inr x), none] [.inl (some (tb + 2 + 2 * j))] h
    refine ax_astore_n (q := 6) B d_T_fileAt_5 rfl (by decide) rfl ?_
    refine ax_aload_n (q := 7) B d_T_fileAt_6 rfl rfl rfl ?_
    refine ax_ifnull (q := 22) (q2 := 10) B d_T_fileAt_7 rfl rfl (fun h7 => ?_) (fun _ h7 => ?_)
    · first | (cases h7; done) | (rw [if_neg (by rw [pz_beq_ne h15]; decide)] at E; refine ax_null (q := 23) B d_T_fileAt_22 rfl ?_; exact ax_aret B E d_T_fileAt_23 ⟨rfl, rfl⟩)
    · refine ax_aload_n (q := 11) B d_T_fileAt_10 rfl rfl rfl ?_
      refine ax_getN (q := 14) B fl_T_38 rfl d_T_fileAt_11 (by assumption) (by first | assumption | rfl) rfl ?_
      refine ax_iconst (v := nI 2) (q := 15) B d_T_fileAt_14 ci_2 rfl ?_
      refine ax_icmpN_ne (q := 22) (q2 := 18) B (by omega) (by omega) d_T_fileAt_15 rfl rfl (fun h15 => ?_) (fun h15 => ?_)
      · first | (cases h7; done) | (rw [if_neg (by rw [pz_beq_ne h15]; decide)] at E; refine ax_null (q := 23) B d_T_fileAt_22 rfl ?_; exact ax_aret B E d_T_fileAt_23 ⟨rfl, rfl⟩)
      · rw [if_pos (by rw [h15]; rfl)] at E
        refine ax_aload_n (q := 19) B d_T_fileAt_18 rfl rfl rfl ?_
        refine ax_goto (q := 23) B d_T_fileAt_19 rfl ?_
        refine ax_aret B E d_T_fileAt_23 ?_
        exact ⟨rfl, rfl⟩
theorem pz_par_s {t : pz_T} {c n : Nat} (h : pz_par t c n = none) : pz_par t c (n + 1) = if pz_kd t n = 1 ∧ pz_hold t n c (pz_ct t n) = true then some n else none := by
  show (match pz_par t c n with | some i => some i | none => if pz_kd t n = 1 ∧ pz_hold t n c (pz_ct t n) = true then some n else none) = _
  rw [h]
theorem pz_par_m {t : pz_T} {c n i : Nat} (h : pz_par t c n = some i) : ∀ m, pz_par t c (n + m) = some i
  | 0 => h
  | m + 1 => by
    show (match pz_par t c (n + m) with | some i => some i | none => if pz_kd t (n + m) = 1 ∧ pz_hold t (n + m) c (pz_ct t (n + m)) = true then some (n + m) else none) = _
    rw [pz_par_m h m]
theorem k_parentOf {l : Launch} {G : aw_G} (hG : aw_ok G) {tb : Nat} (ht : tz G tb) {h : aw_H} {t : pz_T} (hT : hz_T tb t h) {c : Nat} (hc : c < 2 ^ 31) : aw_I l G 1 Y_T_parentOf [.inl (some tb), .inr (nI c)] h (.inr (oI (pz_par t c 8))) := by
  refine aw_met hG (by decide) (Nat.le_of_ble_eq_true rfl) (fun M hM B E => ?_)
  show aw_X M G 3 0 [some (.inl (some tb)), some (.inr (nI c)), none] [] h
  obtain ⟨ht4, it, rt, at1, hn⟩ := ht
  have loop : ∀ m j, j + m = 8 → pz_par t c j = none → aw_X M G 3 2 [some (.inl (some tb)), some (.inr (nI c)), some (.inr (nI j))] [] h := by
    intro m
    induction m with
    | zero =>
      intro j hj hz
      have hj : j = 8 := by omega
      subst hj
      refine ax_iload_n (q := 3) B d_T_parentOf_2 rfl rfl rfl ?_
      refine ax_bipush (v := nI 8) (q := 5) B d_T_parentOf_3 cb_8 rfl ?_
      refine ax_icmpN_ge (q := 42) (q2 := 8) B (by omega) (by omega) d_T_parentOf_5 rfl rfl (fun h5 => ?_) (fun h5 => ?_)
      · refine ax_iconst (v := (-1)) (q := 43) B d_T_parentOf_42 ci_m1 rfl ?_
        refine ax_iret B E d_T_parentOf_43 ?_
        exact ⟨by rw [hz]; rfl, rfl⟩
      · omega
    | succ m ih =>
      intro j hj hz
      obtain ⟨rj, nj⟩ := hn j (by omega)
      have ij := nj.1
      have hNj := hT j (by omega)
      obtain ⟨ej, -, -, -, hkd, -⟩ := hT j (by omega)
      have hs := pz_par_s hz
      refine ax_iload_n (q := 3) B d_T_parentOf_2 rfl rfl rfl ?_
      refine ax_bipush (v := nI 8) (q := 5) B d_T_parentOf_3 cb_8 rfl ?_
      refine ax_icmpN_ge (q := 42) (q2 := 8) B (by omega) (by omega) d_T_parentOf_5 rfl rfl (fun h5 => ?_) (fun h5 => ?_)
      · omega
      · refine ax_aload_n (q := 9) B d_T_parentOf_8 rfl rfl rfl ?_
        refine ax_getP (q := 12) B fl_T_11 rfl d_T_parentOf_9 (by assumption) (by assumption) rfl ?_
        refine ax_iload_n (q := 13) B d_T_parentOf_12 rfl rfl rfl ?_
        refine ax_aaldN (q := 14) B d_T_parentOf_13 (by assumption) rfl (by omega) (by omega) (by first | assumption | rfl) rfl ?_
        refine ax_getN (q := 17) B fl_T_38 rfl d_T_parentOf_14 (by assumption) (by first | assumption | rfl) rfl ?_
        refine ax_iconst (v := nI 1) (q := 18) B d_T_parentOf_17 ci_1 rfl ?_
        refine ax_icmpN_ne (q := 36) (q2 := 21) B (by omega) (by omega) d_T_parentOf_18 rfl rfl (fun h18 => ?_) (fun h18 => ?_)
        · refine ax_iincN (j := 1) (q := 39) B d_T_parentOf_36 rfl ii_1 (by decide) rfl ?_
          refine ax_goto (q := 2) B d_T_parentOf_39 rfl ?_
          refine ih (j + 1) (by omega) ?_
          rw [hs]
          refine if_neg (fun z => ?_)
          first | exact h18 z.1 | (have z2 : pz_hd (pz_it t j) c (pz_ct t j) = true := z.2; rw [h31] at z2; cases z2)
        · refine ax_aload_n (q := 22) B d_T_parentOf_21 rfl rfl rfl ?_
          refine ax_getP (q := 25) B fl_T_11 rfl d_T_parentOf_22 (by assumption) (by assumption) rfl ?_
          refine ax_iload_n (q := 26) B d_T_parentOf_25 rfl rfl rfl ?_
          refine ax_aaldN (q := 27) B d_T_parentOf_26 (by assumption) rfl (by omega) (by omega) (by first | assumption | rfl) rfl ?_
          refine ax_iload_n (q := 28) B d_T_parentOf_27 rfl rfl rfl ?_
          refine ax_qV1 (q := 31) B cv_T_54 d_T_parentOf_28 (by assumption) (Nat.le_of_ble_eq_true rfl) (by decide) (k_holds hG nj hNj.lz hc) rfl ?_
          refine ax_ifZ_eq (q := 36) (q2 := 34) B d_T_parentOf_31 rfl rfl (fun h31 => ?_) (fun h31 => ?_)
          · refine ax_iincN (j := 1) (q := 39) B d_T_parentOf_36 rfl ii_1 (by decide) rfl ?_
            refine ax_goto (q := 2) B d_T_parentOf_39 rfl ?_
            refine ih (j + 1) (by omega) ?_
            rw [hs]
            refine if_neg (fun z => ?_)
            first | exact h18 z.1 | (have z2 : pz_hd (pz_it t j) c (pz_ct t j) = true := z.2; rw [h31] at z2; cases z2)
          · refine ax_iload_n (q := 35) B d_T_parentOf_34 rfl rfl rfl ?_
            refine ax_iret B E d_T_parentOf_35 ?_
            exact ⟨by rw [show (8 : Nat) = j + 1 + m by omega, pz_par_m (by rw [hs]; exact if_pos ⟨h18, h31⟩) m]; rfl, rfl⟩
  refine ax_iconst (v := nI 0) (q := 1) B d_T_parentOf_0 ci_0 rfl ?_
  refine ax_istore_n (q := 2) B d_T_parentOf_1 rfl (by decide) rfl ?_
  exact loop 8 0 rfl rfl
theorem pz_below_m {t : pz_T} {c x n : Nat} (h : pz_below t c x n = true) : ∀ m, pz_below t c x (n + m) = true
  | 0 => h
  | m + 1 => by
    show (pz_below t c x (n + m) || (pz_anc t c (n + m) == some x)) = true
    rw [pz_below_m h m, Bool.true_or]
theorem pz_anc_none {t : pz_T} {c n : Nat} (h : pz_anc t c n = none) : ∀ m, pz_anc t c (n + m) = none
  | 0 => h
  | m + 1 => by
    show (pz_anc t c (n + m)).bind _ = none
    rw [pz_anc_none h m]
    rfl
theorem pz_below_none {t : pz_T} {c x n : Nat} (h : pz_anc t c n = none) (hb : pz_below t c x n = false) : ∀ m, pz_below t c x (n + m) = false
  | 0 => hb
  | m + 1 => by
    show (pz_below t c x (n + m) || (pz_anc t c (n + m) == some x)) = false
    rw [pz_below_none h hb m, pz_anc_none h m]
    rfl
theorem pz_par_lt {t : pz_T} {c i : Nat} : ∀ n, pz_par t c n = some i → i < n
  | 0, h => by cases h
  | n + 1, h => by
    cases hq : pz_par t c n with
    | some q =>
      have h2 := pz_par_m hq 1
      rw [h2] at h
      cases h
      have := pz_par_lt n hq
      omega
    | none =>
      rw [pz_par_s hq] at h
      by_cases hv : pz_kd t n = 1 ∧ pz_hold t n c (pz_ct t n) = true
      · rw [if_pos hv] at h
        cases h
        omega
      · rw [if_neg hv] at h
        cases h
theorem oI_m1 {o : Option Nat} (ho : ∀ i, o = some i → i < 65536) (h : oI o = -1) : o = none := by
  cases o with
  | none => rfl
  | some i => exact absurd h (nI_nm1 (by have := ho i rfl; omega))
theorem k_isAtOrBelow {l : Launch} {G : aw_G} (hG : aw_ok G) {tb : Nat} (ht : tz G tb) {h : aw_H} {t : pz_T} (hT : hz_T tb t h) {c x : Nat} (hc : c < 8) (hx : x < 65536) : aw_I l G 2 Y_T_isAtOrBelow [.inl (some tb), .inr (nI c), .inr (nI x)] h (.inr (bI (pz_below t c x 8))) := by
  refine aw_met hG (by decide) (Nat.le_of_ble_eq_true rfl) (fun M hM B E => ?_)
  show aw_X M G 5 0 [some (.inl (some tb)), some (.inr (nI c)), some (.inr (nI x)), none, none] [] h
  have it := ht.2.1
  have loop : ∀ m j (o : Option Nat), j + m = 8 → pz_anc t c j = o → (∀ i, o = some i → i < 8) → pz_below t c x j = false → aw_X M G 5 5 [some (.inl (some tb)), some (.inr (nI c)), some (.inr (nI x)), some (.inr (oI o)), some (.inr (nI j))] [] h := by
    intro m
    induction m with
    | zero =>
      intro j o hj ha ho hz
      have hj : j = 8 := by omega
      subst hj
      refine ax_iload (q := 7) B d_T_isAtOrBelow_5 rfl rfl ?_
      refine ax_bipush (v := nI 8) (q := 9) B d_T_isAtOrBelow_7 cb_8 rfl ?_
      refine ax_icmpN_ge (q := 36) (q2 := 12) B (by omega) (by omega) d_T_isAtOrBelow_9 rfl rfl (fun h9 => ?_) (fun h9 => ?_)
      · refine ax_iconst (v := nI 0) (q := 37) B d_T_isAtOrBelow_36 ci_0 rfl ?_
        refine ax_zret B E (by first | exact bI_or _ | decide) d_T_isAtOrBelow_37 ?_
        exact ⟨by rw [hz]; rfl, rfl⟩
      · omega
    | succ m ih =>
      intro j o hj ha ho hz
      cases o with
      | none =>
        have e8 : pz_below t c x 8 = false := by rw [show (8 : Nat) = j + (m + 1) by omega]; exact pz_below_none ha hz (m + 1)
        refine ax_iload (q := 7) B d_T_isAtOrBelow_5 rfl rfl ?_
        refine ax_bipush (v := nI 8) (q := 9) B d_T_isAtOrBelow_7 cb_8 rfl ?_
        refine ax_icmpN_ge (q := 36) (q2 := 12) B (by omega) (by omega) d_T_isAtOrBelow_9 rfl rfl (fun h9 => ?_) (fun h9 => ?_)
        · refine ax_iconst (v := nI 0) (q := 37) B d_T_isAtOrBelow_36 ci_0 rfl ?_
          refine ax_zret B E (by first | exact bI_or _ | decide) d_T_isAtOrBelow_37 ?_
          exact ⟨by rw [e8]; rfl, rfl⟩
        · refine ax_iload_n (q := 13) B d_T_isAtOrBelow_12 rfl rfl rfl ?_
          refine ax_iconst (v := (-1)) (q := 14) B d_T_isAtOrBelow_13 ci_m1 rfl ?_
          refine ax_icmp_eq (q := 36) (q2 := 17) B d_T_isAtOrBelow_14 rfl rfl (fun h14 => ?_) (fun h14 => ?_)
          · refine ax_iconst (v := nI 0) (q := 37) B d_T_isAtOrBelow_36 ci_0 rfl ?_
            refine ax_zret B E (by first | exact bI_or _ | decide) d_T_isAtOrBelow_37 ?_
            exact ⟨by rw [e8]; rfl, rfl⟩
          · exact absurd rfl h14
      | some i =>
        have hi := ho i rfl
        have hs : pz_below t c x (j + 1) = (i == x) := by
          show (pz_below t c x j || (pz_anc t c j == some x)) = _
          rw [hz, ha, Bool.false_or]
          by_cases h2 : i = x
          · subst h2; simp
          · simp [h2]
        show aw_X M G 5 5 [some (.inl (some tb)), some (.inr (nI c)), some (.inr (nI x)), some (.inr (nI i)), some (.inr (nI j))] [] h
        refine ax_iload (q := 7) B d_T_isAtOrBelow_5 rfl rfl ?_
        refine ax_bipush (v := nI 8) (q := 9) B d_T_isAtOrBelow_7 cb_8 rfl ?_
        refine ax_icmpN_ge (q := 36) (q2 := 12) B (by omega) (by omega) d_T_isAtOrBelow_9 rfl rfl (fun h9 => ?_) (fun h9 => ?_)
        · first | (exfalso; omega) | exact absurd h14 (nI_nm1 (by omega))
        · refine ax_iload_n (q := 13) B d_T_isAtOrBelow_12 rfl rfl rfl ?_
          refine ax_iconst (v := (-1)) (q := 14) B d_T_isAtOrBelow_13 ci_m1 rfl ?_
          refine ax_icmp_eq (q := 36) (q2 := 17) B d_T_isAtOrBelow_14 rfl rfl (fun h14 => ?_) (fun h14 => ?_)
          · first | (exfalso; omega) | exact absurd h14 (nI_nm1 (by omega))
          · refine ax_iload_n (q := 18) B d_T_isAtOrBelow_17 rfl rfl rfl ?_
            refine ax_iload_n (q := 19) B d_T_isAtOrBelow_18 rfl rfl rfl ?_
            refine ax_icmpN_ne (q := 24) (q2 := 22) B (by omega) (by omega) d_T_isAtOrBelow_19 rfl rfl (fun h19 => ?_) (fun h19 => ?_)
            · refine ax_aload_n (q := 25) B d_T_isAtOrBelow_24 rfl rfl rfl ?_
              refine ax_iload_n (q := 26) B d_T_isAtOrBelow_25 rfl rfl rfl ?_
              refine ax_qV1 (q := 29) B cv_T_50 d_T_isAtOrBelow_26 (by assumption) (Nat.le_of_ble_eq_true rfl) (by decide) (k_parentOf hG ht hT (by omega)) rfl ?_
              refine ax_istore_n (q := 30) B d_T_isAtOrBelow_29 rfl (by decide) rfl ?_
              refine ax_iincN (j := 1) (q := 33) B d_T_isAtOrBelow_30 rfl ii_1 (by decide) rfl ?_
              refine ax_goto (q := 5) B d_T_isAtOrBelow_33 rfl ?_
              exact ih (j + 1) (pz_par t i 8) (by omega) (by show (pz_anc t c j).bind _ = _; rw [ha]; rfl) (fun q hq => pz_par_lt 8 hq) (by rw [hs]; exact pz_beq_ne h19)
            · refine ax_iconst (v := nI 1) (q := 23) B d_T_isAtOrBelow_22 ci_1 rfl ?_
              refine ax_zret B E (by first | exact bI_or _ | decide) d_T_isAtOrBelow_23 ?_
              exact ⟨by rw [show (8 : Nat) = j + 1 + m by omega, pz_below_m (by rw [hs, h19]; simp) m]; rfl, rfl⟩
  refine ax_iload_n (q := 1) B d_T_isAtOrBelow_0 rfl rfl rfl ?_
  refine ax_istore_n (q := 2) B d_T_isAtOrBelow_1 rfl (by decide) rfl ?_
  refine ax_iconst (v := nI 0) (q := 3) B d_T_isAtOrBelow_2 ci_0 rfl ?_
  refine ax_istore (q := 5) B d_T_isAtOrBelow_3 (by decide) rfl ?_
  exact loop 8 0 (some c) rfl rfl (fun i hi => by cases hi; exact hc) rfl
