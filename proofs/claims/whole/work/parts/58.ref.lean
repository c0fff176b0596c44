/-- what 'sees' asks of a kind -/
def pz_wh (a : Nat) : Nat → Bool := fun c => if a = 0 then c != 0 else c == a
theorem r_sees {l : Launch} {G : aw_G} (hG : gr G) {h : aw_H} {S : pz_S} (hS : qz G S h) (hI : pz_inv S) (at_ x : Int32) {a : Nat} (ha : a ≤ 2) : aw_F l G 6 Y_R_sees [.inl (some 40), .inr at_, .inr x, .inr (nI a)] h (fun v h' => v = .inr (bI (pz_nd (pz_tv S at_) (pz_wh a) x).isSome) ∧ ((pz_nd (pz_tv S at_) (pz_wh a) x).isSome = true → rs (pz_tv S at_) h') ∧ ∀ q, q < 47 ∨ 50 ≤ q → h' q = h q) := by
  obtain ⟨n, k, w, sp, t⟩ := S
  have hi := hI.iz
  obtain ⟨hn, hw, ⟨e1, e2, hk, -⟩, hT⟩ := hS
  have hk : k ≤ aw_n G := hk
  have hw : rw_ w h := hw
  have e2 : h 40 2 = nI k := e2
  have n2 := hG.1.2.2.2
  refine aw_met hG.1.1 (by decide) (Nat.le_of_ble_eq_true rfl) (fun M hM B E => ?_)
  show aw_X M G 4 0 [some (.inl (some 40)), some (.inr at_), some (.inr x), some (.inr (nI a))] [] h
  have i40 := hG.i40
  have a47 := hG.a47
  have r10 : aw_rM 40 10 = some 47 := rfl
  have htv : pz_tv (n, k, w, sp, t) at_ = (if at_ = 0 then t else pz_past w at_ k) := rfl
  rw [htv] at E
  have hL := r_look (l := M.2.1) hG hw (by omega) e2 hi hT at_
  generalize (if at_ = 0 then t else pz_past w at_ k) = T at E hL
  cases hx : pz_small x 8 with
  | false =>
    have hnd : pz_nd T (pz_wh a) x = none := if_neg (by rw [pz_no_8 hx]; omega)
    rw [hnd] at E
    refine ax_iload_n (q := 1) B d_R_sees_0 rfl rfl rfl ?_
    refine ax_if_lt (q := 18) (q2 := 4) B d_R_sees_1 rfl rfl (fun h1 => ?_) (fun h1 => ?_)
    · refine ax_iconst (v := nI 0) (q := 19) B d_R_sees_18 ci_0 rfl ?_
      refine ax_zret B E (by first | exact bI_or _ | decide) d_R_sees_19 ?_
      exact ⟨_, rfl, rfl, (fun z => by cases z), fun q _ => rfl⟩
    · refine ax_iload_n (q := 5) B d_R_sees_4 rfl rfl rfl ?_
      refine ax_bipush (v := nI 7) (q := 7) B d_R_sees_5 cb_7 rfl ?_
      refine ax_icmp_gt (q := 18) (q2 := 10) B d_R_sees_7 rfl rfl (fun h7 => ?_) (fun h7 => ?_)
      · refine ax_iconst (v := nI 0) (q := 19) B d_R_sees_18 ci_0 rfl ?_
        refine ax_zret B E (by first | exact bI_or _ | decide) d_R_sees_19 ?_
        exact ⟨_, rfl, rfl, (fun z => by cases z), fun q _ => rfl⟩
      · rw [pz_small_t h1 (i32_le (by omega) (by rw [Int32.le_iff_toInt_le]; rw [Int32.lt_iff_toInt_lt] at h7; omega))] at hx
        cases hx
  | true =>
    obtain ⟨j, hj, rfl⟩ := pz_small_e (by omega) hx
    have tail : ∀ h1 : aw_H, (∀ q, q < 47 ∨ 50 ≤ q → h1 q = h q) → rs T h1 → aw_X M G 4 20 [some (.inl (some 40)), some (.inr at_), some (.inr (nI j)), some (.inr (nI a))] [] h1 := by
      intro h1 hf hR
      obtain ⟨ej, -, lk, -⟩ := hR j hj
      have hnd : pz_nd T (pz_wh a) (nI j) = if pz_wh a (pz_kd T j) = true then some j else none := by
        unfold pz_nd
        rw [pz_no_N hj]
        by_cases hk : pz_wh a (pz_kd T j) = true
        · rw [if_pos hk, if_pos ⟨hj, hk⟩]
        · rw [if_neg hk, if_neg (fun z => hk z.2)]
      rw [hnd] at E
      have yes : pz_wh a (pz_kd T j) = true → aw_X M G 4 56 [some (.inl (some 40)), some (.inr at_), some (.inr (nI j)), some (.inr (nI a))] [.inr (nI 1)] h1 := by
        intro hk
        rw [if_pos hk] at E
        exact ax_zret B E (by decide) d_R_sees_56 ⟨_, rfl, rfl, fun _ => hR, hf⟩
      have no : ¬ pz_wh a (pz_kd T j) = true → aw_X M G 4 56 [some (.inl (some 40)), some (.inr at_), some (.inr (nI j)), some (.inr (nI a))] [.inr (nI 0)] h1 := by
        intro hk
        rw [if_neg hk] at E
        exact ax_zret B E (by decide) d_R_sees_56 ⟨_, rfl, rfl, (fun z => by cases z), hf⟩
      unfold pz_wh at yes no
      by_cases h0 : a = 0
      · subst h0
        simp only [if_true] at yes no
        refine ax_iload_n (q := 21) B d_R_sees_20 rfl rfl rfl ?_
        refine ax_ifN_ne (q := 41) (q2 := 24) B (by omega) d_R_sees_21 rfl rfl (fun h21 => ?_) (fun h21 => ?_)
        · omega
        · refine ax_aload_n (q := 25) B d_R_sees_24 rfl rfl rfl ?_
          refine ax_getP (q := 28) B fl_R_29 rfl d_R_sees_25 (by assumption) (by assumption) rfl ?_
          refine ax_iload_n (q := 29) B d_R_sees_28 rfl rfl rfl ?_
          refine ax_ialdN (q := 30) B d_R_sees_29 (by assumption) rfl (by omega) (by omega) (by first | assumption | rfl) rfl ?_
          refine ax_ifN_eq (q := 37) (q2 := 33) B (by omega) d_R_sees_30 rfl rfl (fun h30 => ?_) (fun h30 => ?_)
          · refine ax_iconst (v := nI 0) (q := 38) B d_R_sees_37 ci_0 rfl ?_
            refine ax_goto (q := 56) B d_R_sees_38 rfl ?_
            first | exact yes (bne_iff_ne.mpr (by omega)) | exact no (fun z => bne_iff_ne.mp z h30)
          · refine ax_iconst (v := nI 1) (q := 34) B d_R_sees_33 ci_1 rfl ?_
            refine ax_goto (q := 56) B d_R_sees_34 rfl ?_
            first | exact yes (bne_iff_ne.mpr (by omega)) | exact no (fun z => bne_iff_ne.mp z h30)
      · simp only [h0, if_false] at yes no
        refine ax_iload_n (q := 21) B d_R_sees_20 rfl rfl rfl ?_
        refine ax_ifN_ne (q := 41) (q2 := 24) B (by omega) d_R_sees_21 rfl rfl (fun h21 => ?_) (fun h21 => ?_)
        · refine ax_aload_n (q := 42) B d_R_sees_41 rfl rfl rfl ?_
          refine ax_getP (q := 45) B fl_R_29 rfl d_R_sees_42 (by assumption) (by assumption) rfl ?_
          refine ax_iload_n (q := 46) B d_R_sees_45 rfl rfl rfl ?_
          refine ax_ialdN (q := 47) B d_R_sees_46 (by assumption) rfl (by omega) (by omega) (by first | assumption | rfl) rfl ?_
          refine ax_iload_n (q := 48) B d_R_sees_47 rfl rfl rfl ?_
          refine ax_icmpN_ne (q := 55) (q2 := 51) B (by omega) (by omega) d_R_sees_48 rfl rfl (fun h48 => ?_) (fun h48 => ?_)
          · refine ax_iconst (v := nI 0) (q := 56) B d_R_sees_55 ci_0 rfl ?_
            first | exact yes (beq_iff_eq.mpr h48) | exact no (fun z => h48 (beq_iff_eq.mp z))
          · refine ax_iconst (v := nI 1) (q := 52) B d_R_sees_51 ci_1 rfl ?_
            refine ax_goto (q := 56) B d_R_sees_52 rfl ?_
            first | exact yes (beq_iff_eq.mpr h48) | exact no (fun z => h48 (beq_iff_eq.mp z))
        · omega
    refine ax_iload_n (q := 1) B d_R_sees_0 rfl rfl rfl ?_
    refine ax_ifN_lt (q := 18) (q2 := 4) B (by omega) d_R_sees_1 rfl rfl ?_
    refine ax_iload_n (q := 5) B d_R_sees_4 rfl rfl rfl ?_
    refine ax_bipush (v := nI 7) (q := 7) B d_R_sees_5 cb_7 rfl ?_
    refine ax_icmpN_gt (q := 18) (q2 := 10) B (by omega) (by omega) d_R_sees_7 rfl rfl (fun h7 => ?_) (fun h7 => ?_)
    · omega
    · refine ax_aload_n (q := 11) B d_R_sees_10 rfl rfl rfl ?_
      refine ax_iload_n (q := 12) B d_R_sees_11 rfl rfl rfl ?_
      refine ax_gV1 (q := 15) B cv_R_130 d_R_sees_12 (by assumption) (Nat.le_of_ble_eq_true rfl) (by decide) hL rfl (fun v h1 hv => ?_)
      rcases hv with ⟨hf, ⟨rfl, hR⟩ | ⟨rfl, hN⟩⟩
      · refine ax_ifZ_ne (q := 20) (q2 := 18) B d_R_sees_15 rfl rfl (fun _ => tail h1 hf hR) (fun z => by cases z)
      · refine ax_ifZ_ne (q := 20) (q2 := 18) B d_R_sees_15 rfl rfl (fun z => by cases z) (fun _ => ?_)
        have hnd : pz_nd T (pz_wh a) (nI j) = none := by (rw [hN]; refine if_neg (fun z => ?_); have z2 : pz_wh a 0 = true := z.2; unfold pz_wh at z2; by_cases h0 : a = 0 <;> simp_all)
        rw [hnd] at E
        refine ax_iconst (v := nI 0) (q := 19) B d_R_sees_18 ci_0 rfl ?_
        exact ax_zret B E (by decide) d_R_sees_19 ⟨_, rfl, rfl, (fun z => by cases z), hf⟩
theorem pz_wh0 : pz_wh 0 = (fun c => c != 0) := by funext c; unfold pz_wh; rw [if_pos rfl]
theorem pz_wh1 : pz_wh 1 = (fun c => c == 1) := by funext c; unfold pz_wh; rw [if_neg (by omega)]
theorem pz_wh2 : pz_wh 2 = (fun c => c == 2) := by funext c; unfold pz_wh; rw [if_neg (by omega)]
theorem q_kind {l : Launch} {G : aw_G} (hG : gr G) {h : aw_H} {S : pz_S} (hS : qz G S h) (hI : pz_inv S) (a x : Int32) : aw_F l G 7 Y_R_kind [.inl (some 40), .inr a, .inr x] h (fun v h' => v = .inr (pz_kind S a x) ∧ qz G S h' ∧ ∀ q, q < 40 → h' q = h q) := by
  refine aw_met hG.1.1 (by decide) (Nat.le_of_ble_eq_true rfl) (fun M hM B E => ?_)
  show aw_X M G 3 0 [some (.inl (some 40)), some (.inr a), some (.inr x)] [] h
  have i40 := hG.i40
  have a47 := hG.a47
  have r10 : aw_rM 40 10 = some 47 := rfl
  have hC := r_sees (l := M.2.1) hG hS hI a x (a := 0) (by omega)
  rw [pz_wh0] at hC
  unfold pz_kind at E
  generalize pz_tv S a = T at E hC
  refine ax_aload_n (q := 1) B d_R_kind_0 rfl rfl rfl ?_
  refine ax_iload_n (q := 2) B d_R_kind_1 rfl rfl rfl ?_
  refine ax_iload_n (q := 3) B d_R_kind_2 rfl rfl rfl ?_
  refine ax_iconst (v := nI 0) (q := 4) B d_R_kind_3 ci_0 rfl ?_
  refine ax_gV3 (q := 7) B cv_R_133 d_R_kind_4 (by assumption) (Nat.le_of_ble_eq_true rfl) (by decide) hC rfl (fun v h1 hv => ?_)
  obtain ⟨rfl, hR, hf⟩ := hv
  have hS1 : qz G S h1 := hS.kept (fun q q1 q2 => hf q (by omega))
  cases hx : pz_nd T (fun c => c != 0) x with
  | none =>
    rw [hx] at E
    refine ax_ifZ_eq (q := 19) (q2 := 10) B d_R_kind_7 rfl rfl (fun h7 => ?_) (fun h7 => ?_)
    · refine ax_iconst (v := (-1)) (q := 20) B d_R_kind_19 ci_m1 rfl ?_
      refine ax_iret B E d_R_kind_20 ?_
      exact ⟨_, rfl, rfl, hS1, fun q hq => hf q (by omega)⟩
    · cases h7
  | some i =>
    rw [hx] at E hR
    obtain ⟨hi8, -, -⟩ := pz_nd_lt hx
    have ea := pz_nd_arg hx
    subst ea
    have e1 := (hR rfl i hi8).1
    refine ax_ifZ_eq (q := 19) (q2 := 10) B d_R_kind_7 rfl rfl (fun h7 => ?_) (fun h7 => ?_)
    · cases h7
    · refine ax_aload_n (q := 11) B d_R_kind_10 rfl rfl rfl ?_
      refine ax_getP (q := 14) B fl_R_29 rfl d_R_kind_11 (by assumption) (by assumption) rfl ?_
      refine ax_iload_n (q := 15) B d_R_kind_14 rfl rfl rfl ?_
      refine ax_ialdN (q := 16) B d_R_kind_15 (by assumption) rfl (by omega) (by omega) (by first | assumption | rfl) rfl ?_
      refine ax_goto (q := 20) B d_R_kind_16 rfl ?_
      refine ax_iret B E d_R_kind_20 ?_
      exact ⟨_, rfl, rfl, hS1, fun q hq => hf q (by omega)⟩
theorem q_items {l : Launch} {G : aw_G} (hG : gr G) {h : aw_H} {S : pz_S} (hS : qz G S h) (hI : pz_inv S) (a x : Int32) : aw_F l G 7 Y_R_items [.inl (some 40), .inr a, .inr x] h (fun v h' => v = .inr (pz_items S a x) ∧ qz G S h' ∧ ∀ q, q < 40 → h' q = h q) := by
  refine aw_met hG.1.1 (by decide) (Nat.le_of_ble_eq_true rfl) (fun M hM B E => ?_)
  show aw_X M G 3 0 [some (.inl (some 40)), some (.inr a), some (.inr x)] [] h
  have i40 := hG.i40
  have a48 := hG.a48
  have r11 : aw_rM 40 11 = some 48 := rfl
  have hC := r_sees (l := M.2.1) hG hS hI a x (a := 0) (by omega)
  rw [pz_wh0] at hC
  unfold pz_items at E
  generalize pz_tv S a = T at E hC
  refine ax_aload_n (q := 1) B d_R_items_0 rfl rfl rfl ?_
  refine ax_iload_n (q := 2) B d_R_items_1 rfl rfl rfl ?_
  refine ax_iload_n (q := 3) B d_R_items_2 rfl rfl rfl ?_
  refine ax_iconst (v := nI 0) (q := 4) B d_R_items_3 ci_0 rfl ?_
  refine ax_gV3 (q := 7) B cv_R_133 d_R_items_4 (by assumption) (Nat.le_of_ble_eq_true rfl) (by decide) hC rfl (fun v h1 hv => ?_)
  obtain ⟨rfl, hR, hf⟩ := hv
  have hS1 : qz G S h1 := hS.kept (fun q q1 q2 => hf q (by omega))
  cases hx : pz_nd T (fun c => c != 0) x with
  | none =>
    rw [hx] at E
    refine ax_ifZ_eq (q := 19) (q2 := 10) B d_R_items_7 rfl rfl (fun h7 => ?_) (fun h7 => ?_)
    · refine ax_iconst (v := (-1)) (q := 20) B d_R_items_19 ci_m1 rfl ?_
      refine ax_iret B E d_R_items_20 ?_
      exact ⟨_, rfl, rfl, hS1, fun q hq => hf q (by omega)⟩
    · cases h7
  | some i =>
    rw [hx] at E hR
    obtain ⟨hi8, -, -⟩ := pz_nd_lt hx
    have ea := pz_nd_arg hx
    subst ea
    have e1 := (hR rfl i hi8).2.1
    refine ax_ifZ_eq (q := 19) (q2 := 10) B d_R_items_7 rfl rfl (fun h7 => ?_) (fun h7 => ?_)
    · cases h7
    · refine ax_aload_n (q := 11) B d_R_items_10 rfl rfl rfl ?_
      refine ax_getP (q := 14) B fl_R_32 rfl d_R_items_11 (by assumption) (by assumption) rfl ?_
      refine ax_iload_n (q := 15) B d_R_items_14 rfl rfl rfl ?_
      refine ax_ialdN (q := 16) B d_R_items_15 (by assumption) rfl (by omega) (by omega) (by first | assumption | rfl) rfl ?_
      refine ax_goto (q := 20) B d_R_items_16 rfl ?_
      refine ax_iret B E d_R_items_20 ?_
      exact ⟨_, rfl, rfl, hS1, fun q hq => hf q (by omega)⟩
theorem q_find {l : Launch} {G : aw_G} (hG : gr G) {h : aw_H} {S : pz_S} (hS : qz G S h) (hI : pz_inv S) (a x nm : Int32) : aw_F l G 7 Y_R_find [.inl (some 40), .inr a, .inr x, .inr nm] h (fun v h' => v = .inr (pz_find S a x nm) ∧ qz G S h' ∧ ∀ q, q < 40 → h' q = h q) := by
  refine aw_met hG.1.1 (by decide) (Nat.le_of_ble_eq_true rfl) (fun M hM B E => ?_)
  show aw_X M G 5 0 [some (.inl (some 40)), some (.inr a), some (.inr x), some (.inr nm), none] [] h
  have i40 := hG.i40
  have a48 := hG.a48
  have a49 := hG.a49
  have r11 : aw_rM 40 11 = some 48 := rfl
  have r12 : aw_rM 40 12 = some 49 := rfl
  have hC := r_sees (l := M.2.1) hG hS hI a x (a := 1) (by omega)
  rw [pz_wh1] at hC
  unfold pz_find at E
  generalize pz_tv S a = T at E hC
  refine ax_aload_n (q := 1) B d_R_find_0 rfl rfl rfl ?_
  refine ax_iload_n (q := 2) B d_R_find_1 rfl rfl rfl ?_
  refine ax_iload_n (q := 3) B d_R_find_2 rfl rfl rfl ?_
  refine ax_iconst (v := nI 1) (q := 4) B d_R_find_3 ci_1 rfl ?_
  refine ax_gV3 (q := 7) B cv_R_133 d_R_find_4 (by assumption) (Nat.le_of_ble_eq_true rfl) (by decide) hC rfl (fun v h1 hv => ?_)
  obtain ⟨rfl, hR, hf⟩ := hv
  have hS1 : qz G S h1 := hS.kept (fun q q1 q2 => hf q (by omega))
  have hfr : ∀ q, q < 40 → h1 q = h q := fun q hq => hf q (by omega)
  cases hx : pz_nd T (fun c => c == 1) x with
  | none =>
    rw [hx] at E
    refine ax_ifZ_ne (q := 12) (q2 := 10) B d_R_find_7 rfl rfl (fun h7 => ?_) (fun h7 => ?_)
    · cases h7
    · refine ax_iconst (v := (-1)) (q := 11) B d_R_find_10 ci_m1 rfl ?_
      refine ax_iret B E d_R_find_11 ?_
      exact ⟨_, rfl, rfl, hS1, hfr⟩
  | some i =>
    rw [hx] at E hR
    obtain ⟨hi8, -, -⟩ := pz_nd_lt hx
    have ea := pz_nd_arg hx
    subst ea
    obtain ⟨-, e8, -, hc, hit⟩ := hR rfl i hi8
    have E : aw_E M G (some .int) (fun r h' => ∃ v, r = some v ∧ (v = .inr (oI ((pz_ix (pz_it T i) nm (pz_ct T i)).map (fun j => pz_it T i j % 16))) ∧ qz G S h' ∧ ∀ q, q < 40 → h' q = h q)) := E
    have loop : ∀ m j, j + m = pz_ct T i → pz_ix (pz_it T i) nm j = none → aw_X M G 5 15 [some (.inl (some 40)), some (.inr a), some (.inr (nI i)), some (.inr nm), some (.inr (nI j))] [] h1 := by
      intro m
      induction m with
      | zero =>
        intro j hj hn
        have hj : j = pz_ct T i := by omega
        subst hj
        rw [hn] at E
        refine ax_iload (q := 17) B d_R_find_15 rfl rfl ?_
        refine ax_aload_n (q := 18) B d_R_find_17 rfl rfl rfl ?_
        refine ax_getP (q := 21) B fl_R_32 rfl d_R_find_18 (by assumption) (by assumption) rfl ?_
        refine ax_iload_n (q := 22) B d_R_find_21 rfl rfl rfl ?_
        refine ax_ialdN (q := 23) B d_R_find_22 (by assumption) rfl (by omega) (by omega) (by first | assumption | rfl) rfl ?_
        refine ax_icmpN_ge (q := 67) (q2 := 26) B (by omega) (by omega) d_R_find_23 rfl rfl (fun h23 => ?_) (fun h23 => ?_)
        · refine ax_iconst (v := (-1)) (q := 68) B d_R_find_67 ci_m1 rfl ?_
          refine ax_iret B E d_R_find_68 ?_
          exact ⟨_, rfl, rfl, hS1, hfr⟩
        · omega
      | succ m ih =>
        intro j hj hn
        obtain ⟨ej, hfj⟩ := hit j (by omega)
        have hx : pz_ix (pz_it T i) nm (j + 1) = if nI (pz_it T i j / 16) = nm then some j else none := by
          show (match pz_ix (pz_it T i) nm j with | some i => some i | none => if nI (pz_it T i j / 16) = nm then some j else none) = _
          rw [hn]
        refine ax_iload (q := 17) B d_R_find_15 rfl rfl ?_
        refine ax_aload_n (q := 18) B d_R_find_17 rfl rfl rfl ?_
        refine ax_getP (q := 21) B fl_R_32 rfl d_R_find_18 (by assumption) (by assumption) rfl ?_
        refine ax_iload_n (q := 22) B d_R_find_21 rfl rfl rfl ?_
        refine ax_ialdN (q := 23) B d_R_find_22 (by assumption) rfl (by omega) (by omega) (by first | assumption | rfl) rfl ?_
        refine ax_icmpN_ge (q := 67) (q2 := 26) B (by omega) (by omega) d_R_find_23 rfl rfl (fun h23 => ?_) (fun h23 => ?_)
        · omega
        · refine ax_aload_n (q := 27) B d_R_find_26 rfl rfl rfl ?_
          refine ax_getP (q := 30) B fl_R_35 rfl d_R_find_27 (by assumption) (by assumption) rfl ?_
          refine ax_bipush (v := nI 10) (q := 32) B d_R_find_30 cb_10 rfl ?_
          refine ax_iload_n (q := 33) B d_R_find_32 rfl rfl rfl ?_
          first | refine ax_imulN (q := 34) B d_R_find_33 rfl ?_ | refine ax_imul (q := 34) B d_R_find_33 rfl ?_
          refine ax_iload (q := 36) B d_R_find_34 rfl rfl ?_
          first | refine ax_iaddN (q := 37) B d_R_find_36 rfl ?_ | refine ax_iadd (q := 37) B d_R_find_36 rfl ?_
          refine ax_ialdN (q := 38) B d_R_find_37 (by assumption) rfl (by omega) (by omega) (by first | assumption | rfl) rfl ?_
          refine ax_bipush (v := nI 16) (q := 40) B d_R_find_38 cb_16 rfl ?_
          refine ax_idivN (q := 41) B (by omega) (by omega) (by omega) d_R_find_40 rfl ?_
          refine ax_iload_n (q := 42) B d_R_find_41 rfl rfl rfl ?_
          refine ax_icmp_ne (q := 61) (q2 := 45) B d_R_find_42 rfl rfl (fun h42 => ?_) (fun h42 => ?_)
          · refine ax_iincN (j := 1) (q := 64) B d_R_find_61 rfl ii_1 (by decide) rfl ?_
            refine ax_goto (q := 15) B d_R_find_64 rfl ?_
            exact ih (j + 1) (by omega) (by rw [hx, if_neg h42])
          · rw [pz_ix_mono (hx.trans (if_pos h42)) (show j + 1 ≤ pz_ct T i by omega)] at E
            refine ax_aload_n (q := 46) B d_R_find_45 rfl rfl rfl ?_
            refine ax_getP (q := 49) B fl_R_35 rfl d_R_find_46 (by assumption) (by assumption) rfl ?_
            refine ax_bipush (v := nI 10) (q := 51) B d_R_find_49 cb_10 rfl ?_
            refine ax_iload_n (q := 52) B d_R_find_51 rfl rfl rfl ?_
            first | refine ax_imulN (q := 53) B d_R_find_52 rfl ?_ | refine ax_imul (q := 53) B d_R_find_52 rfl ?_
            refine ax_iload (q := 55) B d_R_find_53 rfl rfl ?_
            first | refine ax_iaddN (q := 56) B d_R_find_55 rfl ?_ | refine ax_iadd (q := 56) B d_R_find_55 rfl ?_
            refine ax_ialdN (q := 57) B d_R_find_56 (by assumption) rfl (by omega) (by omega) (by first | assumption | rfl) rfl ?_
            refine ax_bipush (v := nI 16) (q := 59) B d_R_find_57 cb_16 rfl ?_
            refine ax_iremN (q := 60) B (by omega) (by omega) (by omega) d_R_find_59 rfl ?_
            refine ax_iret B E d_R_find_60 ?_
            exact ⟨_, rfl, rfl, hS1, hfr⟩
    refine ax_ifZ_ne (q := 12) (q2 := 10) B d_R_find_7 rfl rfl (fun h7 => ?_) (fun h7 => ?_)
    · refine ax_iconst (v := nI 0) (q := 13) B d_R_find_12 ci_0 rfl ?_
      refine ax_istore (q := 15) B d_R_find_13 (by decide) rfl ?_
      exact loop (pz_ct T i) 0 (by omega) rfl
    · cases h7
theorem q_item {l : Launch} {G : aw_G} (hG : gr G) {h : aw_H} {S : pz_S} (hS : qz G S h) (hI : pz_inv S) (a x y : Int32) : aw_F l G 7 Y_R_item [.inl (some 40), .inr a, .inr x, .inr y] h (fun v h' => v = .inr (pz_item S a x y) ∧ qz G S h' ∧ ∀ q, q < 40 → h' q = h q) := by
  refine aw_met hG.1.1 (by decide) (Nat.le_of_ble_eq_true rfl) (fun M hM B E => ?_)
  show aw_X M G 4 0 [some (.inl (some 40)), some (.inr a), some (.inr x), some (.inr y)] [] h
  have i40 := hG.i40
  have a48 := hG.a48
  have a49 := hG.a49
  have r11 : aw_rM 40 11 = some 48 := rfl
  have r12 : aw_rM 40 12 = some 49 := rfl
  have hC := r_sees (l := M.2.1) hG hS hI a x (a := 1) (by omega)
  rw [pz_wh1] at hC
  unfold pz_item at E
  generalize pz_tv S a = T at E hC
  refine ax_aload_n (q := 1) B d_R_item_0 rfl rfl rfl ?_
  refine ax_iload_n (q := 2) B d_R_item_1 rfl rfl rfl ?_
  refine ax_iload_n (q := 3) B d_R_item_2 rfl rfl rfl ?_
  refine ax_iconst (v := nI 1) (q := 4) B d_R_item_3 ci_1 rfl ?_
  refine ax_gV3 (q := 7) B cv_R_133 d_R_item_4 (by assumption) (Nat.le_of_ble_eq_true rfl) (by decide) hC rfl (fun v h1 hv => ?_)
  obtain ⟨rfl, hR, hf⟩ := hv
  have hS1 : qz G S h1 := hS.kept (fun q q1 q2 => hf q (by omega))
  have hfr : ∀ q, q < 40 → h1 q = h q := fun q hq => hf q (by omega)
  cases hx : pz_nd T (fun c => c == 1) x with
  | none =>
    rw [hx] at E
    refine ax_ifZ_eq (q := 38) (q2 := 10) B d_R_item_7 rfl rfl (fun h7 => ?_) (fun h7 => ?_)
    · refine ax_iconst (v := (-1)) (q := 39) B d_R_item_38 ci_m1 rfl ?_
      refine ax_iret B E d_R_item_39 ?_
      exact ⟨_, rfl, rfl, hS1, hfr⟩
    · cases h7
  | some i =>
    rw [hx] at E hR
    obtain ⟨hi8, -, -⟩ := pz_nd_lt hx
    have ea := pz_nd_arg hx
    subst ea
    obtain ⟨-, e8, -, hc, hit⟩ := hR rfl i hi8
    have E : aw_E M G (some .int) (fun r h' => ∃ v, r = some v ∧ (v = .inr (if pz_small y (pz_ct T i) = true then nI (pz_it T i y.toNatClampNeg) else -1) ∧ qz G S h' ∧ ∀ q, q < 40 → h' q = h q)) := E
    cases hy : pz_small y (pz_ct T i) with
    | false =>
      rw [if_neg (by rw [hy]; decide)] at E
      refine ax_ifZ_eq (q := 38) (q2 := 10) B d_R_item_7 rfl rfl (fun h7 => ?_) (fun h7 => ?_)
      · refine ax_iconst (v := (-1)) (q := 39) B d_R_item_38 ci_m1 rfl ?_
        refine ax_iret B E d_R_item_39 ?_
        exact ⟨_, rfl, rfl, hS1, hfr⟩
      · refine ax_iload_n (q := 11) B d_R_item_10 rfl rfl rfl ?_
        refine ax_if_lt (q := 38) (q2 := 14) B d_R_item_11 rfl rfl (fun h11 => ?_) (fun h11 => ?_)
        · refine ax_iconst (v := (-1)) (q := 39) B d_R_item_38 ci_m1 rfl ?_
          refine ax_iret B E d_R_item_39 ?_
          exact ⟨_, rfl, rfl, hS1, hfr⟩
        · refine ax_iload_n (q := 15) B d_R_item_14 rfl rfl rfl ?_
          refine ax_aload_n (q := 16) B d_R_item_15 rfl rfl rfl ?_
          refine ax_getP (q := 19) B fl_R_32 rfl d_R_item_16 (by assumption) (by assumption) rfl ?_
          refine ax_iload_n (q := 20) B d_R_item_19 rfl rfl rfl ?_
          refine ax_ialdN (q := 21) B d_R_item_20 (by assumption) rfl (by omega) (by omega) (by first | assumption | rfl) rfl ?_
          refine ax_icmp_ge (q := 38) (q2 := 24) B d_R_item_21 rfl rfl (fun h21 => ?_) (fun h21 => ?_)
          · refine ax_iconst (v := (-1)) (q := 39) B d_R_item_38 ci_m1 rfl ?_
            refine ax_iret B E d_R_item_39 ?_
            exact ⟨_, rfl, rfl, hS1, hfr⟩
          · rw [pz_small_t h11 h21] at hy
            cases hy
    | true =>
      rw [if_pos hy] at E
      obtain ⟨j, hj, rfl⟩ := pz_small_e (by omega) hy
      rw [nI_clamp (by omega)] at E
      have ej := (hit j hj).1
      refine ax_ifZ_eq (q := 38) (q2 := 10) B d_R_item_7 rfl rfl (fun h7 => ?_) (fun h7 => ?_)
      · first | (cases h7; done) | omega
      · refine ax_iload_n (q := 11) B d_R_item_10 rfl rfl rfl ?_
        refine ax_ifN_lt (q := 38) (q2 := 14) B (by omega) d_R_item_11 rfl rfl ?_
        refine ax_iload_n (q := 15) B d_R_item_14 rfl rfl rfl ?_
        refine ax_aload_n (q := 16) B d_R_item_15 rfl rfl rfl ?_
        refine ax_getP (q := 19) B fl_R_32 rfl d_R_item_16 (by assumption) (by assumption) rfl ?_
        refine ax_iload_n (q := 20) B d_R_item_19 rfl rfl rfl ?_
        refine ax_ialdN (q := 21) B d_R_item_20 (by assumption) rfl (by omega) (by omega) (by first | assumption | rfl) rfl ?_
        refine ax_icmpN_ge (q := 38) (q2 := 24) B (by omega) (by omega) d_R_item_21 rfl rfl (fun h21 => ?_) (fun h21 => ?_)
        · first | (cases h7; done) | omega
        · refine ax_aload_n (q := 25) B d_R_item_24 rfl rfl rfl ?_
          refine ax_getP (q := 28) B fl_R_35 rfl d_R_item_25 (by assumption) (by assumption) rfl ?_
          refine ax_bipush (v := nI 10) (q := 30) B d_R_item_28 cb_10 rfl ?_
          refine ax_iload_n (q := 31) B d_R_item_30 rfl rfl rfl ?_
          first | refine ax_imulN (q := 32) B d_R_item_31 rfl ?_ | refine ax_imul (q := 32) B d_R_item_31 rfl ?_
          refine ax_iload_n (q := 33) B d_R_item_32 rfl rfl rfl ?_
          first | refine ax_iaddN (q := 34) B d_R_item_33 rfl ?_ | refine ax_iadd (q := 34) B d_R_item_33 rfl ?_
          refine ax_ialdN (q := 35) B d_R_item_34 (by assumption) rfl (by omega) (by omega) (by first | assumption | rfl) rfl ?_
          refine ax_goto (q := 39) B d_R_item_35 rfl ?_
          refine ax_iret B E d_R_item_39 ?_
          exact ⟨_, rfl, rfl, hS1, hfr⟩
theorem q_block {l : Launch} {G : aw_G} (hG : gr G) {h : aw_H} {S : pz_S} (hS : qz G S h) (hI : pz_inv S) (a x y : Int32) : aw_F l G 7 Y_R_block [.inl (some 40), .inr a, .inr x, .inr y] h (fun v h' => v = .inr (pz_block S a x y) ∧ qz G S h' ∧ ∀ q, q < 40 → h' q = h q) := by
  refine aw_met hG.1.1 (by decide) (Nat.le_of_ble_eq_true rfl) (fun M hM B E => ?_)
  show aw_X M G 5 0 [some (.inl (some 40)), some (.inr a), some (.inr x), some (.inr y), none] [] h
  have i40 := hG.i40
  have a41 := hG.a41
  have a48 := hG.a48
  have a49 := hG.a49
  have r0 : aw_rM 40 0 = some 41 := rfl
  have r11 : aw_rM 40 11 = some 48 := rfl
  have r12 : aw_rM 40 12 = some 49 := rfl
  have n2 := hG.1.2.2.2
  have hC := r_sees (l := M.2.1) hG hS hI a x (a := 2) (by omega)
  rw [pz_wh2] at hC
  have hb := fun i j => pz_tv_blk hI a (i := i) (j := j)
  unfold pz_block at E
  generalize pz_tv S a = T at E hC hb
  refine ax_aload_n (q := 1) B d_R_block_0 rfl rfl rfl ?_
  refine ax_iload_n (q := 2) B d_R_block_1 rfl rfl rfl ?_
  refine ax_iload_n (q := 3) B d_R_block_2 rfl rfl rfl ?_
  refine ax_iconst (v := nI 2) (q := 4) B d_R_block_3 ci_2 rfl ?_
  refine ax_gV3 (q := 7) B cv_R_133 d_R_block_4 (by assumption) (Nat.le_of_ble_eq_true rfl) (by decide) hC rfl (fun v h1 hv => ?_)
  obtain ⟨rfl, hR, hf⟩ := hv
  have hS1 : qz G S h1 := hS.kept (fun q q1 q2 => hf q (by omega))
  have hfr : ∀ q, q < 40 → h1 q = h q := fun q hq => hf q (by omega)
  cases hx : pz_nd T (fun c => c == 2) x with
  | none =>
    rw [hx] at E
    refine ax_ifZ_eq (q := 24) (q2 := 10) B d_R_block_7 rfl rfl (fun h7 => ?_) (fun h7 => ?_)
    · refine ax_iconst (v := (-1)) (q := 25) B d_R_block_24 ci_m1 rfl ?_
      refine ax_iret B E d_R_block_25 ?_
      exact ⟨_, rfl, rfl, hS1, hfr⟩
    · cases h7
  | some i =>
    rw [hx] at E hR
    obtain ⟨hi8, hk2, -⟩ := pz_nd_lt hx
    have hk2 : pz_kd T i = 2 := beq_iff_eq.mp hk2
    have ea := pz_nd_arg hx
    subst ea
    obtain ⟨-, e8, -, hc, hit⟩ := hR rfl i hi8
    have E : aw_E M G (some .int) (fun r h' => ∃ v, r = some v ∧ (v = .inr (if pz_small y (pz_ct T i) = true then (if pz_good S.2.2.1 (pz_it T i y.toNatClampNeg) = true then nI (S.2.2.1 (16 * pz_it T i y.toNatClampNeg + 4)) else -8) else -1) ∧ qz G S h' ∧ ∀ q, q < 40 → h' q = h q)) := E
    cases hy : pz_small y (pz_ct T i) with
    | false =>
      rw [if_neg (by rw [hy]; decide)] at E
      refine ax_ifZ_eq (q := 24) (q2 := 10) B d_R_block_7 rfl rfl (fun h7 => ?_) (fun h7 => ?_)
      · refine ax_iconst (v := (-1)) (q := 25) B d_R_block_24 ci_m1 rfl ?_
        refine ax_iret B E d_R_block_25 ?_
        exact ⟨_, rfl, rfl, hS1, hfr⟩
      · refine ax_iload_n (q := 11) B d_R_block_10 rfl rfl rfl ?_
        refine ax_if_lt (q := 24) (q2 := 14) B d_R_block_11 rfl rfl (fun h11 => ?_) (fun h11 => ?_)
        · refine ax_iconst (v := (-1)) (q := 25) B d_R_block_24 ci_m1 rfl ?_
          refine ax_iret B E d_R_block_25 ?_
          exact ⟨_, rfl, rfl, hS1, hfr⟩
        · refine ax_iload_n (q := 15) B d_R_block_14 rfl rfl rfl ?_
          refine ax_aload_n (q := 16) B d_R_block_15 rfl rfl rfl ?_
          refine ax_getP (q := 19) B fl_R_32 rfl d_R_block_16 (by assumption) (by assumption) rfl ?_
          refine ax_iload_n (q := 20) B d_R_block_19 rfl rfl rfl ?_
          refine ax_ialdN (q := 21) B d_R_block_20 (by assumption) rfl (by omega) (by omega) (by first | assumption | rfl) rfl ?_
          refine ax_icmp_lt (q := 26) (q2 := 24) B d_R_block_21 rfl rfl (fun h21 => ?_) (fun h21 => ?_)
          · rw [pz_small_t h11 (fun z => i32_nlt z h21)] at hy
            cases hy
          · refine ax_iconst (v := (-1)) (q := 25) B d_R_block_24 ci_m1 rfl ?_
            refine ax_iret B E d_R_block_25 ?_
            exact ⟨_, rfl, rfl, hS1, hfr⟩
    | true =>
      rw [if_pos hy] at E
      obtain ⟨j, hj, rfl⟩ := pz_small_e (by omega) hy
      rw [nI_clamp (by omega)] at E
      have ej := (hit j hj).1
      have hbj := hb i j hi8 hk2 hj
      have hkn := hS1.2.2.1.2.2.1
      generalize pz_it T i j = p at ej hbj E
      have ew := (hS1.2.1 (16 * p + 4) (by omega)).1
      refine ax_ifZ_eq (q := 24) (q2 := 10) B d_R_block_7 rfl rfl (fun h7 => ?_) (fun h7 => ?_)
      · first | (cases h7; done) | omega
      · refine ax_iload_n (q := 11) B d_R_block_10 rfl rfl rfl ?_
        refine ax_ifN_lt (q := 24) (q2 := 14) B (by omega) d_R_block_11 rfl rfl ?_
        refine ax_iload_n (q := 15) B d_R_block_14 rfl rfl rfl ?_
        refine ax_aload_n (q := 16) B d_R_block_15 rfl rfl rfl ?_
        refine ax_getP (q := 19) B fl_R_32 rfl d_R_block_16 (by assumption) (by assumption) rfl ?_
        refine ax_iload_n (q := 20) B d_R_block_19 rfl rfl rfl ?_
        refine ax_ialdN (q := 21) B d_R_block_20 (by assumption) rfl (by omega) (by omega) (by first | assumption | rfl) rfl ?_
        refine ax_icmpN_lt (q := 26) (q2 := 24) B (by omega) (by omega) d_R_block_21 rfl rfl (fun h21 => ?_) (fun h21 => ?_)
        · refine ax_aload_n (q := 27) B d_R_block_26 rfl rfl rfl ?_
          refine ax_getP (q := 30) B fl_R_35 rfl d_R_block_27 (by assumption) (by assumption) rfl ?_
          refine ax_bipush (v := nI 10) (q := 32) B d_R_block_30 cb_10 rfl ?_
          refine ax_iload_n (q := 33) B d_R_block_32 rfl rfl rfl ?_
          first | refine ax_imulN (q := 34) B d_R_block_33 rfl ?_ | refine ax_imul (q := 34) B d_R_block_33 rfl ?_
          refine ax_iload_n (q := 35) B d_R_block_34 rfl rfl rfl ?_
          first | refine ax_iaddN (q := 36) B d_R_block_35 rfl ?_ | refine ax_iadd (q := 36) B d_R_block_35 rfl ?_
          refine ax_ialdN (q := 37) B d_R_block_36 (by assumption) rfl (by omega) (by omega) (by first | assumption | rfl) rfl ?_
          refine ax_istore (q := 39) B d_R_block_37 (by decide) rfl ?_
          refine ax_aload_n (q := 40) B d_R_block_39 rfl rfl rfl ?_
          refine ax_iload (q := 42) B d_R_block_40 rfl rfl ?_
          refine ax_qV1 (q := 45) B cv_R_62 d_R_block_42 (by assumption) (Nat.le_of_ble_eq_true rfl) (by decide) (r_isGood hG hS1.2.1 (by omega)) rfl ?_
          refine ax_ifZ_eq (q := 63) (q2 := 48) B d_R_block_45 rfl rfl (fun h45 => ?_) (fun h45 => ?_)
          · refine ax_bipush (v := (-8)) (q := 65) B d_R_block_63 cb_m8 rfl ?_
            refine ax_iret B E d_R_block_65 ?_
            exact ⟨_, rfl, by rw [h45]; rfl, hS1, hfr⟩
          · refine ax_aload_n (q := 49) B d_R_block_48 rfl rfl rfl ?_
            refine ax_getP (q := 52) B fl_R_7 rfl d_R_block_49 (by assumption) (by assumption) rfl ?_
            refine ax_bipush (v := nI 16) (q := 54) B d_R_block_52 cb_16 rfl ?_
            refine ax_iload (q := 56) B d_R_block_54 rfl rfl ?_
            first | refine ax_imulN (q := 57) B d_R_block_56 rfl ?_ | refine ax_imul (q := 57) B d_R_block_56 rfl ?_
            refine ax_iconst (v := nI 4) (q := 58) B d_R_block_57 ci_4 rfl ?_
            first | refine ax_iaddN (q := 59) B d_R_block_58 rfl ?_ | refine ax_iadd (q := 59) B d_R_block_58 rfl ?_
            refine ax_ialdN (q := 60) B d_R_block_59 (by assumption) rfl (by omega) (by omega) (by first | assumption | rfl) rfl ?_
            refine ax_goto (q := 65) B d_R_block_60 rfl ?_
            refine ax_iret B E d_R_block_65 ?_
            exact ⟨_, rfl, by rw [h45]; rfl, hS1, hfr⟩
        · first | (cases h7; done) | omega
