/- writing a sector -/
theorem pz_sec_congr {w f g : Nat → Nat} {k : Nat} {b : Bool} (h : ∀ i, i < 16 → i ≠ 1 → f i = g i) : pz_sec w k f b = pz_sec w k g b := by
  funext x
  unfold pz_sec pz_put
  rw [pz_chkN_ext 16 h]
  by_cases h1 : x = 16 * k + 1
  · rw [if_pos h1, if_pos h1]
  · rw [if_neg h1, if_neg h1]
    by_cases h2 : 16 * k ≤ x ∧ x < 16 * k + 16
    · rw [if_pos h2, if_pos h2, h (x - 16 * k) (by omega) (by omega)]
    · rw [if_neg h2, if_neg h2]
/-- the medium while sector k is being laid: its words so far are f -/
def dz (G : aw_G) (k sp : Nat) (w f : Nat → Nat) (h : aw_H) : Prop := h 1 0 = nI (aw_n G) ∧ h 1 3 = nI k ∧ h 1 4 = nI sp + (-1) ∧ k < aw_n G ∧ sp ≤ 1001 ∧ (∀ p, p < k → h 3 p = nI (pz_chk w p)) ∧ (∀ x, x < 16 * aw_n G → x < 16 * k ∨ 16 * k + 16 ≤ x → h 2 x = nI (w x) ∧ w x < 65536) ∧ ∀ i, i < 16 → i ≠ 1 → h 2 (16 * k + i) = nI (f i) ∧ f i < 65536
theorem dz.put {G : aw_G} {k sp i v : Nat} {w f : Nat → Nat} {h : aw_H} (hd : dz G k sp w f h) (hi : i < 16) (hv : v < 65536) : dz G k sp w (pz_up f i v) (aw_u h 2 (16 * k + i) (nI v)) := by
  obtain ⟨a1, a2, a3, a4, a5, a6, a7, a8⟩ := hd
  refine ⟨a1, a2, a3, a4, a5, fun p hp => a6 p hp, fun x hx ho => ⟨aw_rd (by omega) (a7 x hx ho).1, (a7 x hx ho).2⟩, fun j hj h1 => ?_⟩
  by_cases hij : j = i
  · subst hij
    rw [pz_up_s]
    exact ⟨aw_rs, hv⟩
  · rw [pz_up_n hij]
    exact ⟨aw_rd (by omega) (a8 j hj h1).1, (a8 j hj h1).2⟩
theorem mz.dz {G : aw_G} {k sp : Nat} {w : Nat → Nat} {h : aw_H} (hm : mz G k sp w h) (hk : k < aw_n G) (h0 : ∀ x, 16 * k ≤ x → w x = 0) : dz G k sp w (fun _ => 0) h := by
  obtain ⟨⟨a1, a2⟩, a3, a4, a5, a6, a7⟩ := hm
  exact ⟨a1, a3, a4, hk, a6, a7, fun x hx _ => a2 x hx, fun i hi _ => ⟨by rw [(a2 (16 * k + i) (by omega)).1, h0 _ (by omega)], by show (0 : Nat) < 65536; omega⟩⟩
theorem kk_put {l : Launch} {G : aw_G} (hG : gz G) {h : aw_H} {k sp i v : Nat} {w f : Nat → Nat} (hd : dz G k sp w f h) (hi : i < 16) (hv : v < 65536) : aw_P l G 1 Y_M_put [.inl (some 1), .inr (nI i), .inr (nI v)] h (fun h' => dz G k sp w (pz_up f i v) h' ∧ ∀ q, q ≠ 2 → h' q = h q) := by
  have h1 := k_put (l := l) hG hd.1 hd.2.1 hd.2.2.2.1 hi (nI v)
  refine aw_mono h1 (fun r h' hr => ⟨hr.1, ?_⟩)
  rw [hr.2]
  exact ⟨hd.put hi hv, fun q hq => aw_u_ne hq⟩
theorem kk_begin {l : Launch} {G : aw_G} (hG : gz G) {h : aw_H} {k sp a b : Nat} {w : Nat → Nat} (hm : mz G k sp w h) (hk : k < aw_n G) (h0 : ∀ x, 16 * k ≤ x → w x = 0) (ha : a < 65536) (hb : b < 65536) : aw_P l G 2 Y_M_begin [.inl (some 1), .inr (nI a), .inr (nI b)] h (fun h' => dz G k sp w (pz_up (pz_up (pz_up (fun _ => 0) 0 a) 2 k) 3 b) h' ∧ ∀ q, q ≠ 2 → h' q = h q) := by
  have hd := hm.dz hk h0
  have n2 := hG.2.2.2
  have h1 := k_begin (l := l) hG hd.1 hd.2.1 hd.2.2.2.1 (nI a) (nI b)
  refine aw_mono h1 (fun r h' hr => ⟨hr.1, ?_⟩)
  rw [hr.2]
  exact ⟨((hd.put (by omega) ha).put (by omega) (by omega)).put (by omega) hb, fun q hq => by rw [aw_u_ne hq, aw_u_ne hq, aw_u_ne hq]⟩
theorem kk_finish {l : Launch} {G : aw_G} (hG : gz G) {h : aw_H} {k sp : Nat} {w f : Nat → Nat} (hd : dz G k sp w f h) : aw_F l G 3 Y_M_finish [.inl (some 1)] h (fun v h' => v = .inr (bI (decide (sp ≠ 1))) ∧ mz G (k + 1) (sp - 1) (pz_sec w k f (sp == 1)) h' ∧ ∀ q, 4 ≤ q ∨ q = 0 → h' q = h q) := by
  obtain ⟨a1, a2, a3, a4, a5, a6, a7, a8⟩ := hd
  have h1 := k_finish (l := l) hG a1 a2 a3 a4 a5 (f := f) (fun i hi h1 => ⟨(a8 i hi h1).1, by have := (a8 i hi h1).2; omega⟩)
  have hcl := pz_chkN_lt f 16
  have hk1 : pz_sec w k f (sp == 1) (16 * k + 1) = (if sp = 1 then pz_chkN f 16 ^^^ 1 else pz_chkN f 16) := by
    rw [pz_sec_1]
    by_cases hs : sp = 1
    · rw [if_pos hs, if_pos (by rw [hs]; rfl)]
    · rw [if_neg hs, if_neg (by rw [pz_beq_ne hs]; decide)]
  have hk2 : pz_chk (pz_sec w k f (sp == 1)) k = pz_chkN f 16 := pz_chk_new
  have hk3 : ∀ p, p < k → pz_chk (pz_sec w k f (sp == 1)) p = pz_chk w p := fun p hp => pz_chk_old hp
  have hk4 : ∀ x, x < 16 * k ∨ 16 * k + 16 ≤ x → pz_sec w k f (sp == 1) x = w x := fun x hx => by
    rcases hx with h2 | h2
    · exact pz_sec_old h2
    · exact pz_sec_far h2
  have hk5 : ∀ i, i < 16 → i ≠ 1 → pz_sec w k f (sp == 1) (16 * k + i) = f i := fun i hi h1 => pz_sec_new hi h1
  generalize pz_chkN f 16 = c at h1 hcl hk1 hk2
  unfold hz_fin at h1
  generalize pz_sec w k f (sp == 1) = w' at hk1 hk2 hk3 hk4 hk5 ⊢
  have hcx : c ^^^ 1 < 65536 := pz_xor_lt (j := 16) (by omega) (by omega)
  generalize c ^^^ 1 = c1 at h1 hk1 hcx
  have hy : (if sp = 1 then c1 else c) < 65536 := by split <;> omega
  refine aw_mono h1 (fun r h' hr => ?_)
  obtain ⟨v, hv, e1, e2⟩ := hr
  refine ⟨v, hv, e1, ?_⟩
  subst e2
  refine ⟨⟨⟨a1, fun x hx => ?_⟩, ?_, ?_, by omega, by omega, fun p hp => ?_⟩, fun q hq => ?_⟩
  · by_cases hx1 : x = 16 * k + 1
    · subst hx1
      rw [hk1]
      exact ⟨aw_rd (by omega) (aw_rd (by omega) aw_rs), hy⟩
    · by_cases hx2 : x < 16 * k ∨ 16 * k + 16 ≤ x
      · rw [hk4 x hx2]
        exact ⟨aw_rd (by omega) (aw_rd (by omega) (aw_rd (by omega) (aw_rd (by omega) (a7 x hx hx2).1))), (a7 x hx hx2).2⟩
      · obtain ⟨i, hi⟩ : ∃ i, x = 16 * k + i := ⟨x - 16 * k, by omega⟩
        subst hi
        rw [hk5 i (by omega) (by omega)]
        exact ⟨aw_rd (by omega) (aw_rd (by omega) (aw_rd (by omega) (aw_rd (by omega) (a8 i (by omega) (by omega)).1))), (a8 i (by omega) (by omega)).2⟩
  · exact aw_rd (by omega) aw_rs
  · exact aw_rs
  · by_cases hpk : p = k
    · subst hpk
      rw [hk2]
      exact aw_rd (by omega) (aw_rd (by omega) (aw_rd (by omega) aw_rs))
    · rw [hk3 p (by omega)]
      exact aw_rd (by omega) (aw_rd (by omega) (aw_rd (by omega) (aw_rd (by omega) (a6 p (by omega)))))
  · rw [aw_u_ne (by omega), aw_u_ne (by omega), aw_u_ne (by omega), aw_u_ne (by omega)]
theorem k_readBack {l : Launch} {G : aw_G} (hG : gz G) {h : aw_H} {k sp : Nat} {w : Nat → Nat} (hm : mz G k sp w h) (hi : iz k w) : aw_P l G 5 Y_S_readBack [.inl (some 0)] h (fun h' => hz_T 4 (pz_back w k) h' ∧ ∀ q, q < 6 ∨ 22 ≤ q → h' q = h q) := by
  refine aw_met hG.1 (by decide) (Nat.le_of_ble_eq_true rfl) (fun M hM B E => ?_)
  show aw_X M G 2 0 [some (.inl (some 0)), none] [] h
  have i0 := hG.is0
  have i1 := hG.is1
  have i4 := hG.t4.2.1
  have r0 : aw_rM 0 0 = some 1 := rfl
  have r1 : aw_rM 0 1 = some 4 := rfl
  have n2 := hG.2.2.2
  have hk := hm.2.2.2.1
  have hC := k_newestTable (l := M.2.1) hG hm hi
  refine ax_aload_n (q := 1) B d_S_readBack_0 rfl rfl rfl ?_
  refine ax_qV0 (q := 4) B cv_S_179 d_S_readBack_1 (by assumption) (Nat.le_of_ble_eq_true rfl) (by decide) hC rfl ?_
  unfold pz_back at E
  cases hx : pz_newest w k with
  | none =>
    rw [hx] at E
    refine ax_istore_n (q := 5) B d_S_readBack_4 rfl (by decide) rfl ?_
    refine ax_iload_n (q := 6) B d_S_readBack_5 rfl rfl rfl ?_
    refine ax_iconst (v := (-1)) (q := 7) B d_S_readBack_6 ci_m1 rfl ?_
    refine ax_icmp_ne (q := 20) (q2 := 10) B d_S_readBack_7 rfl rfl (fun h7 => ?_) (fun h7 => ?_)
    · exact absurd rfl h7
    · refine ax_aload_n (q := 11) B d_S_readBack_10 rfl rfl rfl ?_
      refine ax_getP (q := 14) B fl_S_30 rfl d_S_readBack_11 (by assumption) (by assumption) rfl ?_
      refine ax_pV0 (q := 17) B cv_S_37 d_S_readBack_14 (by assumption) (Nat.le_of_ble_eq_true rfl) (by decide) (k_becomeEmpty hG.1 hG.t4 h) rfl (fun f1 hf1 => ?_)
      refine ax_goto (q := 32) B d_S_readBack_17 rfl ?_
      refine ax_vret B E d_S_readBack_32 ?_
      exact ⟨rfl, hf1⟩
  | some p =>
    rw [hx] at E
    obtain ⟨hp, hv⟩ := pz_newest_lt k hx
    show aw_X M G 2 4 [some (.inl (some 0)), none] [.inr (nI p)] h
    refine ax_istore_n (q := 5) B d_S_readBack_4 rfl (by decide) rfl ?_
    refine ax_iload_n (q := 6) B d_S_readBack_5 rfl rfl rfl ?_
    refine ax_iconst (v := (-1)) (q := 7) B d_S_readBack_6 ci_m1 rfl ?_
    refine ax_icmp_ne (q := 20) (q2 := 10) B d_S_readBack_7 rfl rfl (fun h7 => ?_) (fun h7 => ?_)
    · refine ax_aload_n (q := 21) B d_S_readBack_20 rfl rfl rfl ?_
      refine ax_getP (q := 24) B fl_S_30 rfl d_S_readBack_21 (by assumption) (by assumption) rfl ?_
      refine ax_aload_n (q := 25) B d_S_readBack_24 rfl rfl rfl ?_
      refine ax_getP (q := 28) B fl_S_23 rfl d_S_readBack_25 (by assumption) (by assumption) rfl ?_
      refine ax_iload_n (q := 29) B d_S_readBack_28 rfl rfl rfl ?_
      refine ax_pV2 (q := 32) B cv_S_182 d_S_readBack_29 (by assumption) (Nat.le_of_ble_eq_true rfl) (by decide) (k_tbecome hG hG.t4 hm.1 (hi.rz hk hp (pz_valid_3 hv))) rfl (fun f1 hf1 => ?_)
      refine ax_vret B E d_S_readBack_32 ?_
      exact ⟨rfl, hf1⟩
    · exact absurd h7 (nI_nm1 (by omega))
/-- the tree that is seen at x when x isn't 0 -/
def pz_past (w : Nat → Nat) (x : Int32) (k : Nat) : pz_T := match pz_tabAt w x k with
  | none => pz_none
  | some p => pz_read w p
theorem k_treeAt {l : Launch} {G : aw_G} (hG : gz G) {h : aw_H} {k sp : Nat} {w : Nat → Nat} (hm : mz G k sp w h) (hi : iz k w) (x : Int32) : aw_F l G 5 Y_S_treeAt [.inl (some 0), .inr x] h (fun v h' => (x = 0 ∧ v = .inl (some 4) ∧ h' = h) ∨ (x ≠ 0 ∧ v = .inl (some 22) ∧ hz_T 22 (pz_past w x k) h' ∧ ∀ q, q < 24 ∨ 40 ≤ q → h' q = h q)) := by
  refine aw_met hG.1 (by decide) (Nat.le_of_ble_eq_true rfl) (fun M hM B E => ?_)
  show aw_X M G 3 0 [some (.inl (some 0)), some (.inr x), none] [] h
  have i0 := hG.is0
  have i1 := hG.is1
  have i22 := hG.t22.2.1
  have r0 : aw_rM 0 0 = some 1 := rfl
  have r1 : aw_rM 0 1 = some 4 := rfl
  have r2 : aw_rM 0 2 = some 22 := rfl
  have n2 := hG.2.2.2
  have hk := hm.2.2.2.1
  have hC := k_tablePlace (l := M.2.1) hG hm hi x
  unfold pz_past at E
  have tail : x ≠ 0 → aw_X M G 3 14 [some (.inl (some 0)), some (.inr x), none] [.inr (oI (pz_tabAt w x k))] h := by
    intro hx0
    cases hx : pz_tabAt w x k with
    | none =>
      rw [hx] at E
      refine ax_istore_n (q := 15) B d_S_treeAt_14 rfl (by decide) rfl ?_
      refine ax_iload_n (q := 16) B d_S_treeAt_15 rfl rfl rfl ?_
      refine ax_iconst (v := (-1)) (q := 17) B d_S_treeAt_16 ci_m1 rfl ?_
      refine ax_icmp_ne (q := 30) (q2 := 20) B d_S_treeAt_17 rfl rfl (fun h17 => ?_) (fun h17 => ?_)
      · exact absurd rfl h17
      · refine ax_aload_n (q := 21) B d_S_treeAt_20 rfl rfl rfl ?_
        refine ax_getP (q := 24) B fl_S_34 rfl d_S_treeAt_21 (by assumption) (by assumption) rfl ?_
        refine ax_pV0 (q := 27) B cv_S_189 d_S_treeAt_24 (by assumption) (Nat.le_of_ble_eq_true rfl) (by decide) (k_becomeNothing hG.1 hG.t22 h) rfl (fun f1 hf1 => ?_)
        refine ax_goto (q := 42) B d_S_treeAt_27 rfl ?_
        refine ax_aload_n (q := 43) B d_S_treeAt_42 rfl rfl rfl ?_
        refine ax_getP (q := 46) B fl_S_34 rfl d_S_treeAt_43 (by assumption) (by assumption) rfl ?_
        refine ax_aret B E d_S_treeAt_46 ?_
        exact ⟨_, rfl, Or.inr ⟨hx0, rfl, hf1⟩⟩
    | some p =>
      rw [hx] at E
      obtain ⟨hp, hv⟩ := pz_tabAt_lt k hx
      show aw_X M G 3 14 [some (.inl (some 0)), some (.inr x), none] [.inr (nI p)] h
      refine ax_istore_n (q := 15) B d_S_treeAt_14 rfl (by decide) rfl ?_
      refine ax_iload_n (q := 16) B d_S_treeAt_15 rfl rfl rfl ?_
      refine ax_iconst (v := (-1)) (q := 17) B d_S_treeAt_16 ci_m1 rfl ?_
      refine ax_icmp_ne (q := 30) (q2 := 20) B d_S_treeAt_17 rfl rfl (fun h17 => ?_) (fun h17 => ?_)
      · refine ax_aload_n (q := 31) B d_S_treeAt_30 rfl rfl rfl ?_
        refine ax_getP (q := 34) B fl_S_34 rfl d_S_treeAt_31 (by assumption) (by assumption) rfl ?_
        refine ax_aload_n (q := 35) B d_S_treeAt_34 rfl rfl rfl ?_
        refine ax_getP (q := 38) B fl_S_23 rfl d_S_treeAt_35 (by assumption) (by assumption) rfl ?_
        refine ax_iload_n (q := 39) B d_S_treeAt_38 rfl rfl rfl ?_
        refine ax_pV2 (q := 42) B cv_S_182 d_S_treeAt_39 (by assumption) (Nat.le_of_ble_eq_true rfl) (by decide) (k_tbecome hG hG.t22 hm.1 (hi.rz hk hp (pz_valid_3 hv))) rfl (fun f1 hf1 => ?_)
        refine ax_aload_n (q := 43) B d_S_treeAt_42 rfl rfl rfl ?_
        refine ax_getP (q := 46) B fl_S_34 rfl d_S_treeAt_43 (by assumption) (by assumption) rfl ?_
        refine ax_aret B E d_S_treeAt_46 ?_
        exact ⟨_, rfl, Or.inr ⟨hx0, rfl, hf1⟩⟩
      · exact absurd h17 (nI_nm1 (by omega))
  refine ax_iload_n (q := 1) B d_S_treeAt_0 rfl rfl rfl ?_
  refine ax_if_ne (q := 9) (q2 := 4) B d_S_treeAt_1 rfl rfl (fun h1 => ?_) (fun h1 => ?_)
  · refine ax_aload_n (q := 10) B d_S_treeAt_9 rfl rfl rfl ?_
    refine ax_iload_n (q := 11) B d_S_treeAt_10 rfl rfl rfl ?_
    refine ax_qV1 (q := 14) B cv_S_186 d_S_treeAt_11 (by assumption) (Nat.le_of_ble_eq_true rfl) (by decide) hC rfl ?_
    exact tail h1
  · refine ax_aload_n (q := 5) B d_S_treeAt_4 rfl rfl rfl ?_
    refine ax_getP (q := 8) B fl_S_30 rfl d_S_treeAt_5 (by assumption) (by assumption) rfl ?_
    exact ax_aret B E d_S_treeAt_8 ⟨_, rfl, Or.inl ⟨h1, rfl, rfl⟩⟩
