def eI (a : Nat) : Int32 := if a < 8 then nI a else -1
theorem eI_eq {j a : Nat} (hj : j < 8) (ha : a ≤ 8) : nI j = eI a ↔ j = a := by
  unfold eI
  by_cases h : a < 8
  · rw [if_pos h]; exact nI_eq (by omega) (by omega)
  · rw [if_neg h]
    exact ⟨fun z => absurd z (nI_nm1 (by omega)), fun z => by omega⟩
theorem r_changedWith {l : Launch} {G : aw_G} (hG : gr G) {h : aw_H} {t : pz_T} (hT : rt t h) {a b g : Nat} (ha : a ≤ 8) (hb : b ≤ 8) (hg : g ≤ 8) : aw_I l G 0 Y_R_changedWith [.inl (some 40), .inr (eI a), .inr (eI b), .inr (eI g)] h (.inr (nI (pz_cw (pz_ch t) a b g 8))) := by
  refine aw_met hG.1.1 (by decide) (Nat.le_of_ble_eq_true rfl) (fun M hM B E => ?_)
  show aw_X M G 7 0 [some (.inl (some 40)), some (.inr (eI a)), some (.inr (eI b)), some (.inr (eI g)), none, none, none] [] h
  have i40 := hG.i40
  have a45 := hG.a45
  have r8 : aw_rM 40 8 = some 45 := rfl
  unfold pz_cw at E
  have loop : ∀ m j (u : Option aw_V), j + m = 8 → aw_X M G 7 6 [some (.inl (some 40)), some (.inr (eI a)), some (.inr (eI b)), some (.inr (eI g)), some (.inr (nI (pz_cp (fun n => (pz_ch t n || n == a || n == b) && n != g) j))), some (.inr (nI j)), u] [] h := by
    intro m
    induction m with
    | zero =>
      intro j u hj
      have hj : j = 8 := by omega
      subst hj
      refine ax_iload (q := 8) B d_R_changedWith_6 rfl rfl ?_
      refine ax_bipush (v := nI 8) (q := 10) B d_R_changedWith_8 cb_8 rfl ?_
      refine ax_icmpN_ge (q := 70) (q2 := 13) B (by omega) (by omega) d_R_changedWith_10 rfl rfl (fun h10 => ?_) (fun h10 => ?_)
      · refine ax_iload (q := 72) B d_R_changedWith_70 rfl rfl ?_
        refine ax_iret B E d_R_changedWith_72 ?_
        exact ⟨rfl, rfl⟩
      · omega
    | succ m ih =>
      intro j u hj
      have h3 := fun u => ih (j + 1) u (by omega)
      rw [show pz_cp (fun n => (pz_ch t n || n == a || n == b) && n != g) (j + 1) = pz_cp (fun n => (pz_ch t n || n == a || n == b) && n != g) j + (if ((pz_ch t j || j == a || j == b) && j != g) = true then 1 else 0) from rfl] at h3
      generalize pz_cp (fun n => (pz_ch t n || n == a || n == b) && n != g) j = x at h3 ⊢
      have ej := (hT j (by omega)).2.2.1
      have tail : ∀ s : Nat, (if (pz_ch t j || j == a || j == b) = true then 1 else 0) = s → aw_X M G 7 40 [some (.inl (some 40)), some (.inr (eI a)), some (.inr (eI b)), some (.inr (eI g)), some (.inr (nI x)), some (.inr (nI j)), u] [.inr (nI s)] h := by
        intro s hs
        have hs1 : s ≤ 1 := by rw [← hs]; split <;> omega
        refine ax_istore (q := 42) B d_R_changedWith_40 (by decide) rfl ?_
        refine ax_iload (q := 44) B d_R_changedWith_42 rfl rfl ?_
        refine ax_ifN_eq (q := 60) (q2 := 47) B (by omega) d_R_changedWith_44 rfl rfl (fun h44 => ?_) (fun h44 => ?_)
        · refine ax_iload (q := 62) B d_R_changedWith_60 rfl rfl ?_
          refine ax_istore (q := 64) B d_R_changedWith_62 (by decide) rfl ?_
          refine ax_iincN (j := 1) (q := 67) B d_R_changedWith_64 rfl ii_1 (by decide) rfl ?_
          refine ax_goto (q := 6) B d_R_changedWith_67 rfl ?_
          first | (have e9 : ((pz_ch t j || j == a || j == b) && j != g) = true := (by rw [Bool.and_eq_true]; exact ⟨Decidable.byContradiction (fun z => by rw [if_neg z] at hs; omega), by simp; exact fun z => h50 ((eI_eq (by omega) hg).mpr z)⟩); rw [if_pos e9] at h3; exact h3 _) | (have e9 : ¬ ((pz_ch t j || j == a || j == b) && j != g) = true := (fun z => by rw [Bool.and_eq_true] at z; have z2 := (eI_eq (by omega) hg).mp h50; rw [z2] at z; simp at z); rw [if_neg e9] at h3; exact h3 _) | (have e9 : ¬ ((pz_ch t j || j == a || j == b) && j != g) = true := (fun z => by rw [Bool.and_eq_true] at z; rw [if_pos z.1] at hs; omega); rw [if_neg e9] at h3; exact h3 _)
        · refine ax_iload (q := 49) B d_R_changedWith_47 rfl rfl ?_
          refine ax_iload_n (q := 50) B d_R_changedWith_49 rfl rfl rfl ?_
          refine ax_icmp_eq (q := 60) (q2 := 53) B d_R_changedWith_50 rfl rfl (fun h50 => ?_) (fun h50 => ?_)
          · refine ax_iload (q := 62) B d_R_changedWith_60 rfl rfl ?_
            refine ax_istore (q := 64) B d_R_changedWith_62 (by decide) rfl ?_
            refine ax_iincN (j := 1) (q := 67) B d_R_changedWith_64 rfl ii_1 (by decide) rfl ?_
            refine ax_goto (q := 6) B d_R_changedWith_67 rfl ?_
            first | (have e9 : ((pz_ch t j || j == a || j == b) && j != g) = true := (by rw [Bool.and_eq_true]; exact ⟨Decidable.byContradiction (fun z => by rw [if_neg z] at hs; omega), by simp; exact fun z => h50 ((eI_eq (by omega) hg).mpr z)⟩); rw [if_pos e9] at h3; exact h3 _) | (have e9 : ¬ ((pz_ch t j || j == a || j == b) && j != g) = true := (fun z => by rw [Bool.and_eq_true] at z; have z2 := (eI_eq (by omega) hg).mp h50; rw [z2] at z; simp at z); rw [if_neg e9] at h3; exact h3 _) | (have e9 : ¬ ((pz_ch t j || j == a || j == b) && j != g) = true := (fun z => by rw [Bool.and_eq_true] at z; rw [if_pos z.1] at hs; omega); rw [if_neg e9] at h3; exact h3 _)
          · refine ax_iload (q := 55) B d_R_changedWith_53 rfl rfl ?_
            refine ax_iconst (v := nI 1) (q := 56) B d_R_changedWith_55 ci_1 rfl ?_
            first | refine ax_iaddN (q := 57) B d_R_changedWith_56 rfl ?_ | refine ax_iadd (q := 57) B d_R_changedWith_56 rfl ?_
            refine ax_goto (q := 62) B d_R_changedWith_57 rfl ?_
            refine ax_istore (q := 64) B d_R_changedWith_62 (by decide) rfl ?_
            refine ax_iincN (j := 1) (q := 67) B d_R_changedWith_64 rfl ii_1 (by decide) rfl ?_
            refine ax_goto (q := 6) B d_R_changedWith_67 rfl ?_
            first | (have e9 : ((pz_ch t j || j == a || j == b) && j != g) = true := (by rw [Bool.and_eq_true]; exact ⟨Decidable.byContradiction (fun z => by rw [if_neg z] at hs; omega), by simp; exact fun z => h50 ((eI_eq (by omega) hg).mpr z)⟩); rw [if_pos e9] at h3; exact h3 _) | (have e9 : ¬ ((pz_ch t j || j == a || j == b) && j != g) = true := (fun z => by rw [Bool.and_eq_true] at z; have z2 := (eI_eq (by omega) hg).mp h50; rw [z2] at z; simp at z); rw [if_neg e9] at h3; exact h3 _) | (have e9 : ¬ ((pz_ch t j || j == a || j == b) && j != g) = true := (fun z => by rw [Bool.and_eq_true] at z; rw [if_pos z.1] at hs; omega); rw [if_neg e9] at h3; exact h3 _)
      refine ax_iload (q := 8) B d_R_changedWith_6 rfl rfl ?_
      refine ax_bipush (v := nI 8) (q := 10) B d_R_changedWith_8 cb_8 rfl ?_
      refine ax_icmpN_ge (q := 70) (q2 := 13) B (by omega) (by omega) d_R_changedWith_10 rfl rfl (fun h10 => ?_) (fun h10 => ?_)
      · omega
      · refine ax_aload_n (q := 14) B d_R_changedWith_13 rfl rfl rfl ?_
        refine ax_getP (q := 17) B fl_R_22 rfl d_R_changedWith_14 (by assumption) (by assumption) rfl ?_
        refine ax_iload (q := 19) B d_R_changedWith_17 rfl rfl ?_
        refine ax_zaldN (q := 20) B d_R_changedWith_19 (by assumption) rfl (by omega) (by omega) (by first | assumption | rfl) rfl ?_
        refine ax_ifZ_ne (q := 35) (q2 := 23) B d_R_changedWith_20 rfl rfl (fun h20 => ?_) (fun h20 => ?_)
        · refine ax_iconst (v := nI 1) (q := 36) B d_R_changedWith_35 ci_1 rfl ?_
          refine ax_goto (q := 40) B d_R_changedWith_36 rfl ?_
          first | exact tail 1 (by rw [h20]; rfl) | exact tail 1 (by rw [(eI_eq (by omega) ha).mp h26]; simp) | exact tail 1 (by rw [(eI_eq (by omega) hb).mp h32]; simp) | exact tail 0 (by rw [h20, pz_beq_ne (fun z => h26 ((eI_eq (by omega) ha).mpr z)), pz_beq_ne (fun z => h32 ((eI_eq (by omega) hb).mpr z))]; rfl)
        · refine ax_iload (q := 25) B d_R_changedWith_23 rfl rfl ?_
          refine ax_iload_n (q := 26) B d_R_changedWith_25 rfl rfl rfl ?_
          refine ax_icmp_eq (q := 35) (q2 := 29) B d_R_changedWith_26 rfl rfl (fun h26 => ?_) (fun h26 => ?_)
          · refine ax_iconst (v := nI 1) (q := 36) B d_R_changedWith_35 ci_1 rfl ?_
            refine ax_goto (q := 40) B d_R_changedWith_36 rfl ?_
            first | exact tail 1 (by rw [h20]; rfl) | exact tail 1 (by rw [(eI_eq (by omega) ha).mp h26]; simp) | exact tail 1 (by rw [(eI_eq (by omega) hb).mp h32]; simp) | exact tail 0 (by rw [h20, pz_beq_ne (fun z => h26 ((eI_eq (by omega) ha).mpr z)), pz_beq_ne (fun z => h32 ((eI_eq (by omega) hb).mpr z))]; rfl)
          · refine ax_iload (q := 31) B d_R_changedWith_29 rfl rfl ?_
            refine ax_iload_n (q := 32) B d_R_changedWith_31 rfl rfl rfl ?_
            refine ax_icmp_ne (q := 39) (q2 := 35) B d_R_changedWith_32 rfl rfl (fun h32 => ?_) (fun h32 => ?_)
            · refine ax_iconst (v := nI 0) (q := 40) B d_R_changedWith_39 ci_0 rfl ?_
              first | exact tail 1 (by rw [h20]; rfl) | exact tail 1 (by rw [(eI_eq (by omega) ha).mp h26]; simp) | exact tail 1 (by rw [(eI_eq (by omega) hb).mp h32]; simp) | exact tail 0 (by rw [h20, pz_beq_ne (fun z => h26 ((eI_eq (by omega) ha).mpr z)), pz_beq_ne (fun z => h32 ((eI_eq (by omega) hb).mpr z))]; rfl)
            · refine ax_iconst (v := nI 1) (q := 36) B d_R_changedWith_35 ci_1 rfl ?_
              refine ax_goto (q := 40) B d_R_changedWith_36 rfl ?_
              first | exact tail 1 (by rw [h20]; rfl) | exact tail 1 (by rw [(eI_eq (by omega) ha).mp h26]; simp) | exact tail 1 (by rw [(eI_eq (by omega) hb).mp h32]; simp) | exact tail 0 (by rw [h20, pz_beq_ne (fun z => h26 ((eI_eq (by omega) ha).mpr z)), pz_beq_ne (fun z => h32 ((eI_eq (by omega) hb).mpr z))]; rfl)
  refine ax_iconst (v := nI 0) (q := 1) B d_R_changedWith_0 ci_0 rfl ?_
  refine ax_istore (q := 3) B d_R_changedWith_1 (by decide) rfl ?_
  refine ax_iconst (v := nI 0) (q := 4) B d_R_changedWith_3 ci_0 rfl ?_
  refine ax_istore (q := 6) B d_R_changedWith_4 (by decide) rfl ?_
  exact loop 8 0 none rfl
theorem r_tooFew {l : Launch} {G : aw_G} (hG : gr G) {h : aw_H} {n k m c : Nat} (e1 : h 40 1 = nI n) (e2 : h 40 2 = nI k) (hn : n ≤ 128) (hk : k ≤ n) (hm : m ≤ 1) (hc : c ≤ 100) : aw_I l G 0 Y_R_tooFew [.inl (some 40), .inr (nI m), .inr (nI c)] h (.inr (bI (decide (n < k + m + c + 1)))) := by
  refine aw_met hG.1.1 (by decide) (Nat.le_of_ble_eq_true rfl) (fun M hM B E => ?_)
  show aw_X M G 3 0 [some (.inl (some 40)), some (.inr (nI m)), some (.inr (nI c))] [] h
  have i40 := hG.i40
  have hl := lt_full (u := n - k) (a := m) (v := c + 1) (by omega) (by omega) (by omega)
  refine ax_aload_n (q := 1) B d_R_tooFew_0 rfl rfl rfl ?_
  refine ax_getN (q := 4) B fl_R_44 rfl d_R_tooFew_1 (by assumption) (by first | assumption | rfl) rfl ?_
  refine ax_aload_n (q := 5) B d_R_tooFew_4 rfl rfl rfl ?_
  refine ax_getN (q := 8) B fl_R_66 rfl d_R_tooFew_5 (by assumption) (by first | assumption | rfl) rfl ?_
  refine ax_isubN (q := 9) B (by omega) d_R_tooFew_8 rfl ?_
  refine ax_iload_n (q := 10) B d_R_tooFew_9 rfl rfl rfl ?_
  refine ax_isub (q := 11) B d_R_tooFew_10 rfl ?_
  refine ax_iload_n (q := 12) B d_R_tooFew_11 rfl rfl rfl ?_
  refine ax_iconst (v := nI 1) (q := 13) B d_R_tooFew_12 ci_1 rfl ?_
  first | refine ax_iaddN (q := 14) B d_R_tooFew_13 rfl ?_ | refine ax_iadd (q := 14) B d_R_tooFew_13 rfl ?_
  refine ax_icmp_ge (q := 21) (q2 := 17) B d_R_tooFew_14 rfl rfl (fun h14 => ?_) (fun h14 => ?_)
  · refine ax_iconst (v := nI 0) (q := 22) B d_R_tooFew_21 ci_0 rfl ?_
    refine ax_zret B E (by first | exact bI_or _ | decide) d_R_tooFew_22 ?_
    first | exact ⟨by rw [decide_eq_true (show n < k + m + c + 1 by have h9 := hl.mp (i32_lt h14); omega)]; rfl, rfl⟩ | exact ⟨by rw [decide_eq_false (fun z => i32_nlt h14 (hl.mpr (by omega)))]; rfl, rfl⟩
  · refine ax_iconst (v := nI 1) (q := 18) B d_R_tooFew_17 ci_1 rfl ?_
    refine ax_goto (q := 22) B d_R_tooFew_18 rfl ?_
    refine ax_zret B E (by first | exact bI_or _ | decide) d_R_tooFew_22 ?_
    first | exact ⟨by rw [decide_eq_true (show n < k + m + c + 1 by have h9 := hl.mp (i32_lt h14); omega)]; rfl, rfl⟩ | exact ⟨by rw [decide_eq_false (fun z => i32_nlt h14 (hl.mpr (by omega)))]; rfl, rfl⟩
-- who is below whom, as the reference finds it
def pz_bi (t : pz_T) (n : Nat) (bl : Nat → Bool) : Nat → Nat → Bool | 0 => bl | s + 1 => pz_up (pz_bi t n bl s) (pz_it t n s % 16) true
def pz_bn (t : pz_T) (bl : Nat → Bool) (n : Nat) : Nat → Bool := if bl n = true ∧ pz_kd t n = 1 then pz_bi t n bl (pz_ct t n) else bl
def pz_br (t : pz_T) (bl : Nat → Bool) : Nat → Nat → Bool | 0 => bl | n + 1 => pz_bn t (pz_br t bl n) n
def pz_brr (t : pz_T) (bl : Nat → Bool) : Nat → Nat → Bool | 0 => bl | r + 1 => pz_br t (pz_brr t bl r) 8
theorem pz_bi_keep {t : pz_T} {n : Nat} {bl : Nat → Bool} {c : Nat} (h : bl c = true) : ∀ s, pz_bi t n bl s c = true
  | 0 => h
  | s + 1 => by
    show pz_up (pz_bi t n bl s) (pz_it t n s % 16) true c = true
    by_cases hc : c = pz_it t n s % 16
    · rw [hc, pz_up_s]
    · rw [pz_up_n hc]; exact pz_bi_keep h s
theorem r_isBelow {l : Launch} {G : aw_G} (hG : gr G) {h : aw_H} {t : pz_T} (hT : rt t h) (hit : ∀ n, n < 8 → pz_kd t n = 1 → ∀ s, s < pz_ct t n → pz_it t n s % 16 < 8) {c x : Nat} (hc : c < 8) (hx : x < 8) : aw_F l G 0 Y_R_isBelow [.inl (some 40), .inr (nI c), .inr (nI x)] h (fun v h' => v = .inr (bI (pz_brr t (fun n => n == x) 8 c)) ∧ ∀ q, q ≠ 51 → h' q = h q) := by
  refine aw_met hG.1.1 (by decide) (Nat.le_of_ble_eq_true rfl) (fun M hM B E => ?_)
  show aw_X M G 6 0 [some (.inl (some 40)), some (.inr (nI c)), some (.inr (nI x)), none, none, none] [] h
  have i40 := hG.i40
  have a42 := hG.a42
  have a43 := hG.a43
  have a44 := hG.a44
  have a51 := hG.a51
  have r5 : aw_rM 40 5 = some 42 := rfl
  have r6 : aw_rM 40 6 = some 43 := rfl
  have r7 : aw_rM 40 7 = some 44 := rfl
  have r14 : aw_rM 40 14 = some 51 := rfl
  have rounds : ∀ m r (f : aw_H) (u4 u5 : Option aw_V), r + m = 8 → (∀ i, i < 8 → f 51 i = bI (pz_brr t (fun n => n == x) r i)) → (∀ q, q ≠ 51 → f q = h q) → aw_X M G 6 32 [some (.inl (some 40)), some (.inr (nI c)), some (.inr (nI x)), some (.inr (nI r)), u4, u5] [] f := by
    intro m
    induction m with
    | zero =>
      intro r f u4 u5 hr g1 g2
      have hr : r = 8 := by omega
      subst hr
      have gc := g1 c hc
      generalize pz_brr t (fun n => n == x) 8 c = y at E gc
      refine ax_iload_n (q := 33) B d_R_isBelow_32 rfl rfl rfl ?_
      refine ax_bipush (v := nI 8) (q := 35) B d_R_isBelow_33 cb_8 rfl ?_
      refine ax_icmpN_ge (q := 124) (q2 := 38) B (by omega) (by omega) d_R_isBelow_35 rfl rfl (fun h35 => ?_) (fun h35 => ?_)
      · refine ax_aload_n (q := 125) B d_R_isBelow_124 rfl rfl rfl ?_
        refine ax_getP (q := 128) B fl_R_41 rfl d_R_isBelow_125 (by assumption) (by assumption) rfl ?_
        refine ax_iload_n (q := 129) B d_R_isBelow_128 rfl rfl rfl ?_
        refine ax_zaldN (q := 130) B d_R_isBelow_129 (by assumption) rfl (by omega) (by omega) (by first | assumption | rfl) rfl ?_
        refine ax_zret B E (by first | exact bI_or _ | decide) d_R_isBelow_130 ?_
        exact ⟨_, rfl, rfl, g2⟩
      · omega
    | succ m ih =>
      intro r f u4 u5 hr g1 g2
      generalize hbl : pz_brr t (fun n => n == x) r = bl at g1
      have nodes : ∀ m2 n (f2 : aw_H) (u5 : Option aw_V), n + m2 = 8 → (∀ i, i < 8 → f2 51 i = bI (pz_br t bl n i)) → (∀ q, q ≠ 51 → f2 q = h q) → aw_X M G 6 41 [some (.inl (some 40)), some (.inr (nI c)), some (.inr (nI x)), some (.inr (nI r)), some (.inr (nI n)), u5] [] f2 := by
        intro m2
        induction m2 with
        | zero =>
          intro n f2 u5 hn k1 k2
          have hn : n = 8 := by omega
          subst hn
          refine ax_iload (q := 43) B d_R_isBelow_41 rfl rfl ?_
          refine ax_bipush (v := nI 8) (q := 45) B d_R_isBelow_43 cb_8 rfl ?_
          refine ax_icmpN_ge (q := 118) (q2 := 48) B (by omega) (by omega) d_R_isBelow_45 rfl rfl (fun h45 => ?_) (fun h45 => ?_)
          · refine ax_iincN (j := 1) (q := 121) B d_R_isBelow_118 rfl ii_1 (by decide) rfl ?_
            refine ax_goto (q := 32) B d_R_isBelow_121 rfl ?_
            exact ih (r + 1) f2 _ _ (by omega) (fun i hi => by rw [k1 i hi]; show _ = bI (pz_br t (pz_brr t (fun n => n == x) r) 8 i); rw [hbl]) k2
          · omega
        | succ m2 ih2 =>
          intro n f2 u5 hn k1 k2
          have next : ∀ (f3 : aw_H) (u : Option aw_V), (∀ i, i < 8 → f3 51 i = bI (pz_br t bl (n + 1) i)) → (∀ q, q ≠ 51 → f3 q = h q) → aw_X M G 6 112 [some (.inl (some 40)), some (.inr (nI c)), some (.inr (nI x)), some (.inr (nI r)), some (.inr (nI n)), u] [] f3 := by
            intro f3 u k3 k4
            refine ax_iincN (j := 1) (q := 115) B d_R_isBelow_112 rfl ii_1 (by decide) rfl ?_
            refine ax_goto (q := 41) B d_R_isBelow_115 rfl ?_
            exact ih2 (n + 1) f3 u (by omega) k3 k4
          have hbr : pz_br t bl (n + 1) = if pz_br t bl n n = true ∧ pz_kd t n = 1 then pz_bi t n (pz_br t bl n) (pz_ct t n) else pz_br t bl n := rfl
          rw [hbr] at next
          generalize pz_br t bl n = b0 at k1 next
          obtain ⟨e2, e3, -, lk, lc, hI, -⟩ := hT n (by omega)
          by_cases hcond : b0 n = true ∧ pz_kd t n = 1
          · rw [if_pos hcond] at next
            have inner : ∀ m3 s (f3 : aw_H), s + m3 = pz_ct t n → (∀ i, i < 8 → f3 51 i = bI (pz_bi t n b0 s i)) → (∀ q, q ≠ 51 → f3 q = h q) → aw_X M G 6 51 [some (.inl (some 40)), some (.inr (nI c)), some (.inr (nI x)), some (.inr (nI r)), some (.inr (nI n)), some (.inr (nI s))] [] f3 := by
              intro m3
              induction m3 with
              | zero =>
                intro s f3 hs k3 k4
                have f3c : f3 43 n = nI (pz_ct t n) := by rw [k4 43 (by omega)]; exact e3
                have hs : s = pz_ct t n := by omega
                subst hs
                refine ax_iload (q := 53) B d_R_isBelow_51 rfl rfl ?_
                refine ax_aload_n (q := 54) B d_R_isBelow_53 rfl rfl rfl ?_
                refine ax_getP (q := 57) B fl_R_16 rfl d_R_isBelow_54 (by assumption) (by assumption) rfl ?_
                refine ax_iload (q := 59) B d_R_isBelow_57 rfl rfl ?_
                refine ax_ialdN (q := 60) B d_R_isBelow_59 (by assumption) rfl (by omega) (by omega) (by first | assumption | rfl) rfl ?_
                refine ax_icmpN_ge (q := 112) (q2 := 63) B (by omega) (by omega) d_R_isBelow_60 rfl rfl (fun h60 => ?_) (fun h60 => ?_)
                · exact next f3 _ k3 k4
                · omega
              | succ m3 ih3 =>
                intro s f3 hs k3 k4
                have f3c : f3 43 n = nI (pz_ct t n) := by rw [k4 43 (by omega)]; exact e3
                have f3k : f3 42 n = nI (pz_kd t n) := by rw [k4 42 (by omega)]; exact e2
                have f3b : f3 51 n = bI true := by rw [k3 n (by omega), pz_bi_keep hcond.1]
                obtain ⟨es, ls⟩ := hI s (by omega)
                have f3i : f3 44 (10 * n + s) = nI (pz_it t n s) := by rw [k4 44 (by omega)]; exact es
                have hm8 := hit n (by omega) hcond.2 s (by omega)
                have hlk := hcond.2
                refine ax_iload (q := 53) B d_R_isBelow_51 rfl rfl ?_
                refine ax_aload_n (q := 54) B d_R_isBelow_53 rfl rfl rfl ?_
                refine ax_getP (q := 57) B fl_R_16 rfl d_R_isBelow_54 (by assumption) (by assumption) rfl ?_
                refine ax_iload (q := 59) B d_R_isBelow_57 rfl rfl ?_
                refine ax_ialdN (q := 60) B d_R_isBelow_59 (by assumption) rfl (by omega) (by omega) (by first | assumption | rfl) rfl ?_
                refine ax_icmpN_ge (q := 112) (q2 := 63) B (by omega) (by omega) d_R_isBelow_60 rfl rfl (fun h60 => ?_) (fun h60 => ?_)
                · first | (exfalso; omega) | (cases h70; done)
                · refine ax_aload_n (q := 64) B d_R_isBelow_63 rfl rfl rfl ?_
                  refine ax_getP (q := 67) B fl_R_41 rfl d_R_isBelow_64 (by assumption) (by assumption) rfl ?_
                  refine ax_iload (q := 69) B d_R_isBelow_67 rfl rfl ?_
                  refine ax_zaldN (q := 70) B d_R_isBelow_69 (by assumption) rfl (by omega) (by omega) (by first | assumption | rfl) rfl ?_
                  refine ax_ifZ_eq (q := 112) (q2 := 73) B d_R_isBelow_70 rfl rfl (fun h70 => ?_) (fun h70 => ?_)
                  · first | (exfalso; omega) | (cases h70; done)
                  · refine ax_aload_n (q := 74) B d_R_isBelow_73 rfl rfl rfl ?_
                    refine ax_getP (q := 77) B fl_R_13 rfl d_R_isBelow_74 (by assumption) (by assumption) rfl ?_
                    refine ax_iload (q := 79) B d_R_isBelow_77 rfl rfl ?_
                    refine ax_ialdN (q := 80) B d_R_isBelow_79 (by assumption) rfl (by omega) (by omega) (by first | assumption | rfl) rfl ?_
                    refine ax_iconst (v := nI 1) (q := 81) B d_R_isBelow_80 ci_1 rfl ?_
                    refine ax_icmpN_ne (q := 112) (q2 := 84) B (by omega) (by omega) d_R_isBelow_81 rfl rfl (fun h81 => ?_) (fun h81 => ?_)
                    · first | (exfalso; omega) | (cases h70; done)
                    · refine ax_aload_n (q := 85) B d_R_isBelow_84 rfl rfl rfl ?_
                      refine ax_getP (q := 88) B fl_R_41 rfl d_R_isBelow_85 (by assumption) (by assumption) rfl ?_
                      refine ax_aload_n (q := 89) B d_R_isBelow_88 rfl rfl rfl ?_
                      refine ax_getP (q := 92) B fl_R_19 rfl d_R_isBelow_89 (by assumption) (by assumption) rfl ?_
                      refine ax_bipush (v := nI 10) (q := 94) B d_R_isBelow_92 cb_10 rfl ?_
                      refine ax_iload (q := 96) B d_R_isBelow_94 rfl rfl ?_
                      first | refine ax_imulN (q := 97) B d_R_isBelow_96 rfl ?_ | refine ax_imul (q := 97) B d_R_isBelow_96 rfl ?_
                      refine ax_iload (q := 99) B d_R_isBelow_97 rfl rfl ?_
                      first | refine ax_iaddN (q := 100) B d_R_isBelow_99 rfl ?_ | refine ax_iadd (q := 100) B d_R_isBelow_99 rfl ?_
                      refine ax_ialdN (q := 101) B d_R_isBelow_100 (by assumption) rfl (by omega) (by omega) (by first | assumption | rfl) rfl ?_
                      refine ax_bipush (v := nI 16) (q := 103) B d_R_isBelow_101 cb_16 rfl ?_
                      refine ax_iremN (q := 104) B (by omega) (by omega) (by omega) d_R_isBelow_103 rfl ?_
                      refine ax_iconst (v := nI 1) (q := 105) B d_R_isBelow_104 ci_1 rfl ?_
                      refine ax_zastN (q := 106) B d_R_isBelow_105 (by assumption) rfl (by omega) (by omega) (by first | exact bI_or _ | decide) rfl ?_
                      refine ax_iincN (j := 1) (q := 109) B d_R_isBelow_106 rfl ii_1 (by decide) rfl ?_
                      refine ax_goto (q := 51) B d_R_isBelow_109 rfl ?_
                      refine ih3 (s + 1) _ (by omega) (fun i hi => ?_) (fun q hq => (aw_u_ne hq).trans (k4 q hq))
                      show _ = bI (pz_up (pz_bi t n b0 s) (pz_it t n s % 16) true i)
                      by_cases hij : i = pz_it t n s % 16
                      · rw [hij, pz_up_s]; exact aw_rs
                      · rw [pz_up_n hij]; exact aw_rd (by omega) (k3 i hi)
            refine ax_iload (q := 43) B d_R_isBelow_41 rfl rfl ?_
            refine ax_bipush (v := nI 8) (q := 45) B d_R_isBelow_43 cb_8 rfl ?_
            refine ax_icmpN_ge (q := 118) (q2 := 48) B (by omega) (by omega) d_R_isBelow_45 rfl rfl (fun h45 => ?_) (fun h45 => ?_)
            · omega
            · refine ax_iconst (v := nI 0) (q := 49) B d_R_isBelow_48 ci_0 rfl ?_
              refine ax_istore (q := 51) B d_R_isBelow_49 (by decide) rfl ?_
              exact inner (pz_ct t n) 0 f2 (by omega) k1 k2
          · rw [if_neg hcond] at next
            have f2c : f2 43 n = nI (pz_ct t n) := by rw [k2 43 (by omega)]; exact e3
            have f2k : f2 42 n = nI (pz_kd t n) := by rw [k2 42 (by omega)]; exact e2
            have f2b := k1 n (by omega)
            refine ax_iload (q := 43) B d_R_isBelow_41 rfl rfl ?_
            refine ax_bipush (v := nI 8) (q := 45) B d_R_isBelow_43 cb_8 rfl ?_
            refine ax_icmpN_ge (q := 118) (q2 := 48) B (by omega) (by omega) d_R_isBelow_45 rfl rfl (fun h45 => ?_) (fun h45 => ?_)
            · omega
            · refine ax_iconst (v := nI 0) (q := 49) B d_R_isBelow_48 ci_0 rfl ?_
              refine ax_istore (q := 51) B d_R_isBelow_49 (by decide) rfl ?_
              refine ax_iload (q := 53) B d_R_isBelow_51 rfl rfl ?_
              refine ax_aload_n (q := 54) B d_R_isBelow_53 rfl rfl rfl ?_
              refine ax_getP (q := 57) B fl_R_16 rfl d_R_isBelow_54 (by assumption) (by assumption) rfl ?_
              refine ax_iload (q := 59) B d_R_isBelow_57 rfl rfl ?_
              refine ax_ialdN (q := 60) B d_R_isBelow_59 (by assumption) rfl (by omega) (by omega) (by first | assumption | rfl) rfl ?_
              refine ax_icmpN_ge (q := 112) (q2 := 63) B (by omega) (by omega) d_R_isBelow_60 rfl rfl (fun h60 => ?_) (fun h60 => ?_)
              · exact next f2 _ k1 k2
              · refine ax_aload_n (q := 64) B d_R_isBelow_63 rfl rfl rfl ?_
                refine ax_getP (q := 67) B fl_R_41 rfl d_R_isBelow_64 (by assumption) (by assumption) rfl ?_
                refine ax_iload (q := 69) B d_R_isBelow_67 rfl rfl ?_
                refine ax_zaldN (q := 70) B d_R_isBelow_69 (by assumption) rfl (by omega) (by omega) (by first | assumption | rfl) rfl ?_
                refine ax_ifZ_eq (q := 112) (q2 := 73) B d_R_isBelow_70 rfl rfl (fun h70 => ?_) (fun h70 => ?_)
                · exact next f2 _ k1 k2
                · refine ax_aload_n (q := 74) B d_R_isBelow_73 rfl rfl rfl ?_
                  refine ax_getP (q := 77) B fl_R_13 rfl d_R_isBelow_74 (by assumption) (by assumption) rfl ?_
                  refine ax_iload (q := 79) B d_R_isBelow_77 rfl rfl ?_
                  refine ax_ialdN (q := 80) B d_R_isBelow_79 (by assumption) rfl (by omega) (by omega) (by first | assumption | rfl) rfl ?_
                  refine ax_iconst (v := nI 1) (q := 81) B d_R_isBelow_80 ci_1 rfl ?_
                  refine ax_icmpN_ne (q := 112) (q2 := 84) B (by omega) (by omega) d_R_isBelow_81 rfl rfl (fun h81 => ?_) (fun h81 => ?_)
                  · exact next f2 _ k1 k2
                  · exact absurd ⟨h70, h81⟩ hcond
      refine ax_iload_n (q := 33) B d_R_isBelow_32 rfl rfl rfl ?_
      refine ax_bipush (v := nI 8) (q := 35) B d_R_isBelow_33 cb_8 rfl ?_
      refine ax_icmpN_ge (q := 124) (q2 := 38) B (by omega) (by omega) d_R_isBelow_35 rfl rfl (fun h35 => ?_) (fun h35 => ?_)
      · omega
      · refine ax_iconst (v := nI 0) (q := 39) B d_R_isBelow_38 ci_0 rfl ?_
        refine ax_istore (q := 41) B d_R_isBelow_39 (by decide) rfl ?_
        exact nodes 8 0 f _ rfl g1 g2
  have first : ∀ m j (f : aw_H), j + m = 8 → (∀ i, i < j → f 51 i = bI (i == x)) → (∀ q, q ≠ 51 → f q = h q) → aw_X M G 6 2 [some (.inl (some 40)), some (.inr (nI c)), some (.inr (nI x)), some (.inr (nI j)), none, none] [] f := by
    intro m
    induction m with
    | zero =>
      intro j f hj g1 g2
      have hj : j = 8 := by omega
      subst hj
      refine ax_iload_n (q := 3) B d_R_isBelow_2 rfl rfl rfl ?_
      refine ax_bipush (v := nI 8) (q := 5) B d_R_isBelow_3 cb_8 rfl ?_
      refine ax_icmpN_ge (q := 30) (q2 := 8) B (by omega) (by omega) d_R_isBelow_5 rfl rfl (fun h5 => ?_) (fun h5 => ?_)
      · refine ax_iconst (v := nI 0) (q := 31) B d_R_isBelow_30 ci_0 rfl ?_
        refine ax_istore_n (q := 32) B d_R_isBelow_31 rfl (by decide) rfl ?_
        exact rounds 8 0 f none none rfl g1 g2
      · omega
    | succ m ih =>
      intro j f hj g1 g2
      have step : ∀ y : Nat, y ≤ 1 → nI y = bI (j == x) → aw_X M G 6 23 [some (.inl (some 40)), some (.inr (nI c)), some (.inr (nI x)), some (.inr (nI j)), none, none] [.inr (nI y), .inr (nI j), .inl (some 51)] f := by
        intro y hy hyb
        refine ax_zastN (q := 24) B d_R_isBelow_23 (by assumption) rfl (by omega) (by omega) (by rw [hyb]; exact bI_or _) rfl ?_
        refine ax_iincN (j := 1) (q := 27) B d_R_isBelow_24 rfl ii_1 (by decide) rfl ?_
        refine ax_goto (q := 2) B d_R_isBelow_27 rfl ?_
        refine ih (j + 1) _ (by omega) (fun i hi => ?_) (fun q hq => (aw_u_ne hq).trans (g2 q hq))
        by_cases hij : i = j
        · subst hij; rw [aw_rs, hyb]
        · exact aw_rd (by omega) (g1 i (by omega))
      refine ax_iload_n (q := 3) B d_R_isBelow_2 rfl rfl rfl ?_
      refine ax_bipush (v := nI 8) (q := 5) B d_R_isBelow_3 cb_8 rfl ?_
      refine ax_icmpN_ge (q := 30) (q2 := 8) B (by omega) (by omega) d_R_isBelow_5 rfl rfl (fun h5 => ?_) (fun h5 => ?_)
      · omega
      · refine ax_aload_n (q := 9) B d_R_isBelow_8 rfl rfl rfl ?_
        refine ax_getP (q := 12) B fl_R_41 rfl d_R_isBelow_9 (by assumption) (by assumption) rfl ?_
        refine ax_iload_n (q := 13) B d_R_isBelow_12 rfl rfl rfl ?_
        refine ax_iload_n (q := 14) B d_R_isBelow_13 rfl rfl rfl ?_
        refine ax_iload_n (q := 15) B d_R_isBelow_14 rfl rfl rfl ?_
        refine ax_icmpN_ne (q := 22) (q2 := 18) B (by omega) (by omega) d_R_isBelow_15 rfl rfl (fun h15 => ?_) (fun h15 => ?_)
        · refine ax_iconst (v := nI 0) (q := 23) B d_R_isBelow_22 ci_0 rfl ?_
          first | exact step 0 (by omega) (by rw [pz_beq_ne h15]; rfl) | exact step 1 (by omega) (by rw [h15, beq_self_eq_true]; rfl)
        · refine ax_iconst (v := nI 1) (q := 19) B d_R_isBelow_18 ci_1 rfl ?_
          refine ax_goto (q := 23) B d_R_isBelow_19 rfl ?_
          first | exact step 0 (by omega) (by rw [pz_beq_ne h15]; rfl) | exact step 1 (by omega) (by rw [h15, beq_self_eq_true]; rfl)
  refine ax_iconst (v := nI 0) (q := 1) B d_R_isBelow_0 ci_0 rfl ?_
  refine ax_istore_n (q := 2) B d_R_isBelow_1 rfl (by decide) rfl ?_
  exact first 8 0 h rfl (fun i hi => absurd hi (by omega)) (fun q _ => rfl)
