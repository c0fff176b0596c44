theorem hz_T.kept {tb : Nat} {t : pz_T} {h h' : aw_H} (hT : hz_T tb t h) (e : ∀ q, tb + 2 ≤ q → q < tb + 18 → h' q = h q) : hz_T tb t h' := fun i hi => (hT i hi).kept (e _ (by omega) (by omega)) (e _ (by omega) (by omega))
theorem k_tree {l : Launch} {G : aw_G} (hG : gz G) {h : aw_H} {S : pz_S} (hS : cz G S h) (hI : pz_inv S) (a : Int32) : aw_F l G 5 Y_S_treeAt [.inl (some 0), .inr a] h (fun v h' => ∃ tb, v = .inl (some tb) ∧ tz G tb ∧ hz_T tb (pz_tv S a) h' ∧ cz G S h' ∧ ∀ q, 40 ≤ q → h' q = h q) := by
  obtain ⟨n, k, w, sp, t⟩ := S
  have hi := hI.iz
  have h1 := k_treeAt (l := l) hG hS.2.1 hi a
  refine aw_mono h1 (fun r h' hr => ?_)
  obtain ⟨v, hv, hq⟩ := hr
  refine ⟨v, hv, ?_⟩
  rcases hq with ⟨ha, hv4, rfl⟩ | ⟨ha, hv22, hT, hf⟩
  · refine ⟨4, hv4, hG.t4, ?_, hS, fun q _ => rfl⟩
    unfold pz_tv
    rw [if_pos ha]
    exact hS.2.2
  · refine ⟨22, hv22, hG.t22, ?_, ⟨hS.1, hS.2.1.kept (hf 1 (by omega)) (hf 2 (by omega)) (hf 3 (by omega)), hS.2.2.kept (fun q q1 q2 => hf q (by omega))⟩, fun q hq => hf q (by omega)⟩
    unfold pz_tv
    rw [if_neg ha]
    exact hT
theorem p_kind {l : Launch} {G : aw_G} (hG : gz G) {h : aw_H} {S : pz_S} (hS : cz G S h) (hI : pz_inv S) (a x : Int32) : aw_F l G 6 Y_S_kind [.inl (some 0), .inr a, .inr x] h (fun v h' => v = .inr (pz_kind S a x) ∧ cz G S h' ∧ ∀ q, 40 ≤ q → h' q = h q) := by
  refine aw_met hG.1 (by decide) (Nat.le_of_ble_eq_true rfl) (fun M hM B E => ?_)
  show aw_X M G 4 0 [some (.inl (some 0)), some (.inr a), some (.inr x), none] [] h
  have i0 := hG.is0
  refine ax_aload_n (q := 1) B d_S_kind_0 rfl rfl rfl ?_
  refine ax_iload_n (q := 2) B d_S_kind_1 rfl rfl rfl ?_
  refine ax_gV1 (q := 5) B cv_S_152 d_S_kind_2 (by assumption) (Nat.le_of_ble_eq_true rfl) (by decide) (k_tree hG hS hI a) rfl (fun v h1 hv => ?_)
  obtain ⟨tb, rfl, ht, hT, hS1, hf⟩ := hv
  have it := ht.2.1
  unfold pz_kind at E
  generalize pz_tv S a = t at hT E
  refine ax_iload_n (q := 6) B d_S_kind_5 rfl rfl rfl ?_
  refine ax_qV1 (q := 9) B cv_S_106 d_S_kind_6 (by assumption) (Nat.le_of_ble_eq_true rfl) (by decide) (k_nodeAt hG.1 ht hT x) rfl ?_
  cases hx : pz_nd t (fun c => c != 0) x with
  | none =>
    rw [hx] at E
    refine ax_astore_n (q := 10) B d_S_kind_9 rfl (by decide) rfl ?_
    refine ax_aload_n (q := 11) B d_S_kind_10 rfl rfl rfl ?_
    refine ax_ifnonnull (q := 18) (q2 := 14) B d_S_kind_11 rfl rfl (fun _ h11 => ?_) (fun h11 => ?_)
    · cases h11
    · refine ax_iconst (v := (-1)) (q := 15) B d_S_kind_14 ci_m1 rfl ?_
      refine ax_goto (q := 22) B d_S_kind_15 rfl ?_
      refine ax_iret B E d_S_kind_22 ?_
      exact ⟨_, rfl, rfl, hS1, hf⟩
  | some i =>
    rw [hx] at E
    obtain ⟨hi8, -, -⟩ := pz_nd_lt hx
    have ii := (ht.2.2.2.2 i hi8).2.1
    have e1 := (hT i hi8).1
    show aw_X M G 4 9 [some (.inl (some 0)), some (.inr a), some (.inr x), none] [.inl (some (tb + 2 + 2 * i))] h1
    refine ax_astore_n (q := 10) B d_S_kind_9 rfl (by decide) rfl ?_
    refine ax_aload_n (q := 11) B d_S_kind_10 rfl rfl rfl ?_
    refine ax_ifnonnull (q := 18) (q2 := 14) B d_S_kind_11 rfl rfl (fun _ h11 => ?_) (fun h11 => ?_)
    · refine ax_aload_n (q := 19) B d_S_kind_18 rfl rfl rfl ?_
      refine ax_getN (q := 22) B fl_S_109 rfl d_S_kind_19 (by assumption) (by first | assumption | rfl) rfl ?_
      refine ax_iret B E d_S_kind_22 ?_
      exact ⟨_, rfl, rfl, hS1, hf⟩
    · cases h11
theorem p_items {l : Launch} {G : aw_G} (hG : gz G) {h : aw_H} {S : pz_S} (hS : cz G S h) (hI : pz_inv S) (a x : Int32) : aw_F l G 6 Y_S_items [.inl (some 0), .inr a, .inr x] h (fun v h' => v = .inr (pz_items S a x) ∧ cz G S h' ∧ ∀ q, 40 ≤ q → h' q = h q) := by
  refine aw_met hG.1 (by decide) (Nat.le_of_ble_eq_true rfl) (fun M hM B E => ?_)
  show aw_X M G 4 0 [some (.inl (some 0)), some (.inr a), some (.inr x), none] [] h
  have i0 := hG.is0
  refine ax_aload_n (q := 1) B d_S_items_0 rfl rfl rfl ?_
  refine ax_iload_n (q := 2) B d_S_items_1 rfl rfl rfl ?_
  refine ax_gV1 (q := 5) B cv_S_152 d_S_items_2 (by assumption) (Nat.le_of_ble_eq_true rfl) (by decide) (k_tree hG hS hI a) rfl (fun v h1 hv => ?_)
  obtain ⟨tb, rfl, ht, hT, hS1, hf⟩ := hv
  have it := ht.2.1
  unfold pz_items at E
  generalize pz_tv S a = t at hT E
  refine ax_iload_n (q := 6) B d_S_items_5 rfl rfl rfl ?_
  refine ax_qV1 (q := 9) B cv_S_106 d_S_items_6 (by assumption) (Nat.le_of_ble_eq_true rfl) (by decide) (k_nodeAt hG.1 ht hT x) rfl ?_
  cases hx : pz_nd t (fun c => c != 0) x with
  | none =>
    rw [hx] at E
    refine ax_astore_n (q := 10) B d_S_items_9 rfl (by decide) rfl ?_
    refine ax_aload_n (q := 11) B d_S_items_10 rfl rfl rfl ?_
    refine ax_ifnonnull (q := 18) (q2 := 14) B d_S_items_11 rfl rfl (fun _ h11 => ?_) (fun h11 => ?_)
    · cases h11
    · refine ax_iconst (v := (-1)) (q := 15) B d_S_items_14 ci_m1 rfl ?_
      refine ax_goto (q := 22) B d_S_items_15 rfl ?_
      refine ax_iret B E d_S_items_22 ?_
      exact ⟨_, rfl, rfl, hS1, hf⟩
  | some i =>
    rw [hx] at E
    obtain ⟨hi8, -, -⟩ := pz_nd_lt hx
    have ii := (ht.2.2.2.2 i hi8).2.1
    have e1 := (hT i hi8).2.1
    show aw_X M G 4 9 [some (.inl (some 0)), some (.inr a), some (.inr x), none] [.inl (some (tb + 2 + 2 * i))] h1
    refine ax_astore_n (q := 10) B d_S_items_9 rfl (by decide) rfl ?_
    refine ax_aload_n (q := 11) B d_S_items_10 rfl rfl rfl ?_
    refine ax_ifnonnull (q := 18) (q2 := 14) B d_S_items_11 rfl rfl (fun _ h11 => ?_) (fun h11 => ?_)
    · refine ax_aload_n (q := 19) B d_S_items_18 rfl rfl rfl ?_
      refine ax_getN (q := 22) B fl_S_80 rfl d_S_items_19 (by assumption) (by first | assumption | rfl) rfl ?_
      refine ax_iret B E d_S_items_22 ?_
      exact ⟨_, rfl, rfl, hS1, hf⟩
    · cases h11
theorem pz_ix_lt {f : Nat → Nat} {x : Int32} {j : Nat} : ∀ c, pz_ix f x c = some j → j < c
  | 0, h => by cases h
  | c + 1, h => by
    cases hq : pz_ix f x c with
    | some q =>
      rw [pz_ix_mono hq (by omega)] at h
      cases h
      have := pz_ix_lt c hq
      omega
    | none =>
      have h : (match pz_ix f x c with | some i => some i | none => if nI (f c / 16) = x then some c else none) = some j := h
      rw [hq] at h
      have h : (if nI (f c / 16) = x then some c else none) = some j := h
      by_cases hv : nI (f c / 16) = x
      · rw [if_pos hv] at h
        cases h
        omega
      · rw [if_neg hv] at h
        cases h
theorem p_find {l : Launch} {G : aw_G} (hG : gz G) {h : aw_H} {S : pz_S} (hS : cz G S h) (hI : pz_inv S) (a x nm : Int32) : aw_F l G 6 Y_S_find [.inl (some 0), .inr a, .inr x, .inr nm] h (fun v h' => v = .inr (pz_find S a x nm) ∧ cz G S h' ∧ ∀ q, 40 ≤ q → h' q = h q) := by
  refine aw_met hG.1 (by decide) (Nat.le_of_ble_eq_true rfl) (fun M hM B E => ?_)
  show aw_X M G 6 0 [some (.inl (some 0)), some (.inr a), some (.inr x), some (.inr nm), none, none] [] h
  have i0 := hG.is0
  refine ax_aload_n (q := 1) B d_S_find_0 rfl rfl rfl ?_
  refine ax_iload_n (q := 2) B d_S_find_1 rfl rfl rfl ?_
  refine ax_gV1 (q := 5) B cv_S_152 d_S_find_2 (by assumption) (Nat.le_of_ble_eq_true rfl) (by decide) (k_tree hG hS hI a) rfl (fun v h1 hv => ?_)
  obtain ⟨tb, rfl, ht, hT, hS1, hf⟩ := hv
  have it := ht.2.1
  unfold pz_find at E
  generalize pz_tv S a = t at hT E
  refine ax_iload_n (q := 6) B d_S_find_5 rfl rfl rfl ?_
  refine ax_qV1 (q := 9) B cv_S_40 d_S_find_6 (by assumption) (Nat.le_of_ble_eq_true rfl) (by decide) (k_directoryAt hG.1 ht hT x) rfl ?_
  cases hx : pz_nd t (fun c => c == 1) x with
  | none =>
    rw [hx] at E
    refine ax_astore (q := 11) B d_S_find_9 (by decide) rfl ?_
    refine ax_aload (q := 13) B d_S_find_11 rfl rfl ?_
    refine ax_ifnonnull (q := 18) (q2 := 16) B d_S_find_13 rfl rfl (fun _ h13 => ?_) (fun h13 => ?_)
    · cases h13
    · refine ax_iconst (v := (-1)) (q := 17) B d_S_find_16 ci_m1 rfl ?_
      refine ax_iret B E d_S_find_17 ?_
      exact ⟨_, rfl, rfl, hS1, hf⟩
  | some i =>
    rw [hx] at E
    obtain ⟨hi8, -, -⟩ := pz_nd_lt hx
    have ni := (ht.2.2.2.2 i hi8).2
    have ii := ni.1
    have hL := (hT i hi8).lz
    have hlt : ∀ j, pz_ix (pz_it t i) nm (pz_ct t i) = some j → j < pz_ct t i := fun j hj => pz_ix_lt _ hj
    have E : aw_E M G (some .int) (fun r h' => ∃ v, r = some v ∧ (v = .inr (oI ((pz_ix (pz_it t i) nm (pz_ct t i)).map (fun j => pz_it t i j % 16))) ∧ cz G S h' ∧ ∀ q, 40 ≤ q → h' q = h q)) := E
    show aw_X M G 6 9 [some (.inl (some 0)), some (.inr a), some (.inr x), some (.inr nm), none, none] [.inl (some (tb + 2 + 2 * i))] h1
    refine ax_astore (q := 11) B d_S_find_9 (by decide) rfl ?_
    refine ax_aload (q := 13) B d_S_find_11 rfl rfl ?_
    refine ax_ifnonnull (q := 18) (q2 := 16) B d_S_find_13 rfl rfl (fun _ h13 => ?_) (fun h13 => ?_)
    · refine ax_aload (q := 20) B d_S_find_18 rfl rfl ?_
      refine ax_iload_n (q := 21) B d_S_find_20 rfl rfl rfl ?_
      refine ax_qV1 (q := 24) B cv_S_48 d_S_find_21 (by assumption) (Nat.le_of_ble_eq_true rfl) (by decide) (k_indexOfName hG.1 ni hL nm) rfl ?_
      refine ax_istore (q := 26) B d_S_find_24 (by decide) rfl ?_
      refine ax_iload (q := 28) B d_S_find_26 rfl rfl ?_
      refine ax_iconst (v := (-1)) (q := 29) B d_S_find_28 ci_m1 rfl ?_
      refine ax_icmp_ne (q := 36) (q2 := 32) B d_S_find_29 rfl rfl (fun h29 => ?_) (fun h29 => ?_)
      · refine ax_aload (q := 38) B d_S_find_36 rfl rfl ?_
        refine ax_iload (q := 40) B d_S_find_38 rfl rfl ?_
        refine ax_qV1 (q := 43) B cv_S_103 d_S_find_40 (by assumption) (Nat.le_of_ble_eq_true rfl) (by decide) (k_nodeOfItem hG.1 ni hL hlt) rfl ?_
        refine ax_iret B E d_S_find_43 ?_
        exact ⟨_, rfl, rfl, hS1, hf⟩
      · rw [oI_m1 (fun j hj => by have h2 := hlt j hj; have h3 := hL.2.1; omega) h29] at E
        refine ax_iconst (v := (-1)) (q := 33) B d_S_find_32 ci_m1 rfl ?_
        refine ax_goto (q := 43) B d_S_find_33 rfl ?_
        refine ax_iret B E d_S_find_43 ?_
        exact ⟨_, rfl, rfl, hS1, hf⟩
    · cases h13
theorem p_item {l : Launch} {G : aw_G} (hG : gz G) {h : aw_H} {S : pz_S} (hS : cz G S h) (hI : pz_inv S) (a x y : Int32) : aw_F l G 6 Y_S_item [.inl (some 0), .inr a, .inr x, .inr y] h (fun v h' => v = .inr (pz_item S a x y) ∧ cz G S h' ∧ ∀ q, 40 ≤ q → h' q = h q) := by
  refine aw_met hG.1 (by decide) (Nat.le_of_ble_eq_true rfl) (fun M hM B E => ?_)
  show aw_X M G 5 0 [some (.inl (some 0)), some (.inr a), some (.inr x), some (.inr y), none] [] h
  have i0 := hG.is0
  refine ax_aload_n (q := 1) B d_S_item_0 rfl rfl rfl ?_
  refine ax_iload_n (q := 2) B d_S_item_1 rfl rfl rfl ?_
  refine ax_gV1 (q := 5) B cv_S_152 d_S_item_2 (by assumption) (Nat.le_of_ble_eq_true rfl) (by decide) (k_tree hG hS hI a) rfl (fun v h1 hv => ?_)
  obtain ⟨tb, rfl, ht, hT, hS1, hf⟩ := hv
  have it := ht.2.1
  unfold pz_item at E
  generalize pz_tv S a = t at hT E
  refine ax_iload_n (q := 6) B d_S_item_5 rfl rfl rfl ?_
  refine ax_qV1 (q := 9) B cv_S_40 d_S_item_6 (by assumption) (Nat.le_of_ble_eq_true rfl) (by decide) (k_directoryAt hG.1 ht hT x) rfl ?_
  cases hx : pz_nd t (fun c => c == 1) x with
  | none =>
    rw [hx] at E
    refine ax_astore (q := 11) B d_S_item_9 (by decide) rfl ?_
    refine ax_aload (q := 13) B d_S_item_11 rfl rfl ?_
    refine ax_ifnull (q := 25) (q2 := 16) B d_S_item_13 rfl rfl (fun h13 => ?_) (fun _ h13 => ?_)
    · refine ax_iconst (v := (-1)) (q := 26) B d_S_item_25 ci_m1 rfl ?_
      refine ax_goto (q := 36) B d_S_item_26 rfl ?_
      refine ax_iret B E d_S_item_36 ?_
      exact ⟨_, rfl, rfl, hS1, hf⟩
    · cases h13
  | some i =>
    rw [hx] at E
    obtain ⟨hi8, -, -⟩ := pz_nd_lt hx
    obtain ⟨ii, ri, ai⟩ := (ht.2.2.2.2 i hi8).2
    have ni := (ht.2.2.2.2 i hi8).2
    have hN := hT i hi8
    have hc := hN.2.2.2.2.2.1
    have E : aw_E M G (some .int) (fun r h' => ∃ v, r = some v ∧ (v = .inr (if pz_small y (pz_ct t i) = true then nI (pz_it t i y.toNatClampNeg) else -1) ∧ cz G S h' ∧ ∀ q, 40 ≤ q → h' q = h q)) := E
    show aw_X M G 5 9 [some (.inl (some 0)), some (.inr a), some (.inr x), some (.inr y), none] [.inl (some (tb + 2 + 2 * i))] h1
    refine ax_astore (q := 11) B d_S_item_9 (by decide) rfl ?_
    refine ax_aload (q := 13) B d_S_item_11 rfl rfl ?_
    refine ax_ifnull (q := 25) (q2 := 16) B d_S_item_13 rfl rfl (fun h13 => ?_) (fun _ h13 => ?_)
    · first | (cases h13; done) | (rw [if_neg (by rw [h22]; decide)] at E; refine ax_iconst (v := (-1)) (q := 26) B d_S_item_25 ci_m1 rfl ?_; refine ax_goto (q := 36) B d_S_item_26 rfl ?_; exact ax_iret B E d_S_item_36 ⟨_, rfl, rfl, hS1, hf⟩)
    · refine ax_aload (q := 18) B d_S_item_16 rfl rfl ?_
      refine ax_iload_n (q := 19) B d_S_item_18 rfl rfl rfl ?_
      refine ax_qV1 (q := 22) B cv_S_156 d_S_item_19 (by assumption) (Nat.le_of_ble_eq_true rfl) (by decide) (k_has hG.1 ni hN.2.1 y) rfl ?_
      refine ax_ifZ_ne (q := 29) (q2 := 25) B d_S_item_22 rfl rfl (fun h22 => ?_) (fun h22 => ?_)
      · rw [if_pos h22] at E
        obtain ⟨j, hj, rfl⟩ := pz_small_e (by omega) h22
        rw [nI_clamp (by omega)] at E
        have ej := (hN.2.2.2.2.2.2 j hj).1
        refine ax_aload (q := 31) B d_S_item_29 rfl rfl ?_
        refine ax_getP (q := 34) B fl_S_159 rfl d_S_item_31 (by assumption) (by assumption) rfl ?_
        refine ax_iload_n (q := 35) B d_S_item_34 rfl rfl rfl ?_
        refine ax_ialdN (q := 36) B d_S_item_35 (by assumption) rfl (by omega) (by omega) ej rfl ?_
        exact ax_iret B E d_S_item_36 ⟨_, rfl, rfl, hS1, hf⟩
      · first | (cases h13; done) | (rw [if_neg (by rw [h22]; decide)] at E; refine ax_iconst (v := (-1)) (q := 26) B d_S_item_25 ci_m1 rfl ?_; refine ax_goto (q := 36) B d_S_item_26 rfl ?_; exact ax_iret B E d_S_item_36 ⟨_, rfl, rfl, hS1, hf⟩)
