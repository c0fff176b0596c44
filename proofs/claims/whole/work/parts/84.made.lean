/- the constructors of node, tree, medium -/
def am_ints (g : am_G) (z : Nat) : va_E := .inl (g.2.2 0, z, .inl (fun _ => 0))
def am_node (q : Nat) : va_E := .inr (1, [.ref q, .int (nI 0), .int (nI 0), .int (-1), .int (nI 0)])
def am_N0 : List Value := [.null, .int 0, .int 0, .int 0, .int 0]
theorem am_N0_ok : ∀ j, j < aw_nf 1 → defaultValue (fy_N j) = vp_V am_N0 j := by
  intro j hj
  rcases (show j = 0 ∨ j = 1 ∨ j = 2 ∨ j = 3 ∨ j = 4 by have : j < 5 := hj; omega) with rfl | rfl | rfl | rfl | rfl <;> rfl
theorem m_N {l : Launch} {g : am_G} (wr : va_W) (q : Nat) : am_C l g 1 1 10 Y_N_init [.inl (some q)] (wr ++ [(q, .inr (1, am_N0))]) (fun ws' => ∃ q2, ws' = wr ++ [(q, am_node q2), (q2, am_ints g 10)]) := by
  refine am_met (by decide) rfl (Nat.le_of_ble_eq_true rfl) (fun M hM B N E => ?_)
  refine am_aload_n (q := 1) (i := 0) B d_N_init_0 rfl rfl rfl ?_
  refine am_obj (q := 4) B wo_N wo_i wo_c d_N_init_1 (Nat.le_of_ble_eq_true rfl) (by decide) rfl ?_
  refine am_aload_n (q := 5) (i := 0) B d_N_init_4 rfl rfl rfl ?_
  refine am_bipush (q := 7) B d_N_init_5 cb_10 rfl ?_
  refine am_newI (q := 9) (z := 10) B wa_int rfl (by decide) (by decide) (by decide) d_N_init_7 rfl (fun r => ?_)
  refine am_putF (q := 12) (j := 0) (fs := am_N0) B N ff_N_9 rfl rfl d_N_init_9 rfl (Nat.le_of_ble_eq_true rfl) rfl ?_
  refine am_aload_n (q := 13) (i := 0) B d_N_init_12 rfl rfl rfl ?_
  refine am_iconst (q := 14) B d_N_init_13 ci_0 rfl ?_
  refine am_putI (q := 17) (j := 0) (fs := [.ref r, .int 0, .int 0, .int 0, .int 0]) B fp_N_15 (vp_nar_int _) rfl d_N_init_14 rfl (Nat.le_of_ble_eq_true rfl) rfl ?_
  refine am_aload_n (q := 18) (i := 0) B d_N_init_17 rfl rfl rfl ?_
  refine am_iconst (q := 19) B d_N_init_18 ci_0 rfl ?_
  refine am_putI (q := 22) (j := 0) (fs := [.ref r, .int (nI 0), .int 0, .int 0, .int 0]) B fp_N_19 (vp_nar_int _) rfl d_N_init_19 rfl (Nat.le_of_ble_eq_true rfl) rfl ?_
  refine am_aload_n (q := 23) (i := 0) B d_N_init_22 rfl rfl rfl ?_
  refine am_iconst (q := 24) B d_N_init_23 ci_m1 rfl ?_
  refine am_putI (q := 27) (j := 0) (fs := [.ref r, .int (nI 0), .int (nI 0), .int 0, .int 0]) B fp_N_22 (vp_nar_int _) rfl d_N_init_24 rfl (Nat.le_of_ble_eq_true rfl) rfl ?_
  refine am_aload_n (q := 28) (i := 0) B d_N_init_27 rfl rfl rfl ?_
  refine am_iconst (q := 29) B d_N_init_28 ci_0 rfl ?_
  refine am_putI (q := 32) (j := 0) (fs := [.ref r, .int (nI 0), .int (nI 0), .int (-1), .int 0]) B fp_N_25 rfl rfl d_N_init_29 rfl (Nat.le_of_ble_eq_true rfl) rfl ?_
  exact am_vret B E (by decide) (by decide) d_N_init_32 ⟨r, rfl⟩
def am_tp (g : am_G) (ps : List (Nat × Nat)) : va_W := ps.flatMap (fun p => [(p.1, am_node p.2), (p.2, am_ints g 10)])
def am_tw (g : am_G) (t nd : Nat) (ps : List (Nat × Nat)) : va_W := (t, .inr (2, [.ref nd])) :: (nd, .inl (g.2.2 2, 8, .inr (.inr (.inr (.inr (fun j => (ps[j]?).map (fun p => p.1))))))) :: am_tp g ps
theorem am_tp_len {g : am_G} : ∀ ps : List (Nat × Nat), (am_tp g ps).length = 2 * ps.length
  | [] => rfl
  | p :: ps => by
    have h := am_tp_len (g := g) ps
    show (am_tp g ps).length + 1 + 1 = 2 * (ps.length + 1)
    omega
theorem am_tp_add {g : am_G} (p : Nat × Nat) : ∀ ps : List (Nat × Nat), am_tp g (ps ++ [p]) = am_tp g ps ++ [(p.1, am_node p.2), (p.2, am_ints g 10)]
  | [] => rfl
  | p0 :: ps => by
    have h := am_tp_add (g := g) p ps
    show _ :: _ :: am_tp g (ps ++ [p]) = _ :: _ :: (am_tp g ps ++ _)
    rw [h]
theorem am_tp_up (ps : List (Nat × Nat)) (r q : Nat) : va_up (fun j => (ps[j]?).map (fun p => p.1)) ps.length (some r) = fun j => ((ps ++ [(r, q)])[j]?).map (fun p => p.1) := by
  funext j
  unfold va_up
  by_cases hj : j = ps.length
  · rw [if_pos hj, hj, List.getElem?_append_right (Nat.le_refl _), Nat.sub_self]
    rfl
  · rw [if_neg hj]
    by_cases hl : j < ps.length
    · rw [List.getElem?_append_left hl]
    · have h1 : ps[j]? = none := List.getElem?_eq_none (by omega)
      have h2 : (ps ++ [(r, q)])[j]? = none := List.getElem?_eq_none (by rw [List.length_append]; show ps.length + 1 ≤ j; omega)
      rw [h2]
      show (ps[j]?).map _ = _
      rw [h1]
theorem m_T_loop {M : aw_M} {g : am_G} {t nd : Nat} {wr : va_W} (B : am_B M g prog_4_method_1_code 2 "SessionTables$Tree" 2 17 128) (E : am_E M g (fun ws' => ∃ nd ps, ps.length = 8 ∧ ws' = wr ++ am_tw g t nd ps) 17 128) : ∀ (m : Nat) (ps : List (Nat × Nat)), ps.length + m = 8 → am_X M g 2 15 [some (.inl (some t)), some (.inr (nI ps.length))] [] (wr ++ am_tw g t nd ps) (1 + 2 * ps.length) (8 + 15 * ps.length)
  | 0, ps, hm => by
    refine am_iload_n (q := 16) (i := 1) B d_T_init_15 rfl rfl rfl ?_
    refine am_bipush (q := 18) B d_T_init_16 cb_8 rfl ?_
    refine am_icmp_ge (q := 40) (q2 := 21) B d_T_init_18 rfl rfl (fun _ => ?_) (fun z => absurd (nI_le (show 8 ≤ ps.length by omega) (by omega)) z)
    exact am_vret B E (by omega) (by omega) d_T_init_40 ⟨nd, ps, by omega, rfl⟩
  | m + 1, ps, hm => by
    refine am_iload_n (q := 16) (i := 1) B d_T_init_15 rfl rfl rfl ?_
    refine am_bipush (q := 18) B d_T_init_16 cb_8 rfl ?_
    refine am_icmp_ge (q := 40) (q2 := 21) B d_T_init_18 rfl rfl (fun z => absurd z (nI_ge (show ps.length < 8 by omega) (by decide))) (fun _ => ?_)
    refine am_aload_n (q := 22) (i := 0) B d_T_init_21 rfl rfl rfl ?_
    refine am_getR (q := 25) (j := 0) (b := nd) B fl_T_11 d_T_init_22 rfl rfl rfl ?_
    refine am_iload_n (q := 26) (i := 1) B d_T_init_25 rfl rfl rfl ?_
    refine am_new (q := 29) (ci := 1) (fs := am_N0) B fy_N rfl uw_N fy_N_ok wl_T_9 wn_N wi_N am_N0_ok (by omega) (by show _ + 5 ≤ _; omega) d_T_init_26 rfl (fun r => ?_)
    refine am_dup (q := 30) B d_T_init_29 rfl ?_
    rw [← List.append_assoc]
    refine am_callI (q := 33) (rs := []) B ci_T_17i d_T_init_30 rfl rfl (Nat.le_of_ble_eq_true rfl) (by decide) (by omega) (by show _ + 5 + 10 ≤ _; omega) (m_N (wr ++ am_tw g t nd ps) r) rfl (fun ws' hw => ?_)
    obtain ⟨q2, rfl⟩ := hw
    rw [List.append_assoc]
    have hlen : (am_tw g t nd ps).length = 2 + 2 * ps.length := by
      show (am_tp g ps).length + 1 + 1 = _
      rw [am_tp_len]
      omega
    refine am_astQ (q := 34) (j := 1) (jv := 2 + 2 * ps.length) (z := 8) B d_T_init_33 rfl (by rw [List.getElem?_append_right (by omega), hlen, Nat.sub_self]; rfl) (vp_in_nI (show ps.length < 8 by omega) (by decide)) rfl ?_
    have e1 : (am_tw g t nd ps ++ [(r, am_node q2), (q2, am_ints g 10)]).set 1 (nd, .inl (g.2.2 2, 8, .inr (.inr (.inr (.inr (va_up (fun j => (ps[j]?).map (fun p => p.1)) (nI ps.length).toNatClampNeg (some r))))))) = am_tw g t nd (ps ++ [(r, q2)]) := by
      unfold am_tw
      rw [nI_clamp (by omega), am_tp_up ps r q2, am_tp_add]
      rfl
    rw [e1]
    have e2 : (ps ++ [(r, q2)]).length = ps.length + 1 := by rw [List.length_append]; rfl
    refine am_iinc (q := 37) (i := 1) B d_T_init_34 rfl (v := nI (ps.length + 1)) (by rw [ii_1, nI_add]) (by decide) rfl ?_
    refine am_goto (q := 15) B d_T_init_37 rfl ?_
    have h9 := m_T_loop (nd := nd) B E m (ps ++ [(r, q2)]) (by rw [e2]; omega)
    rw [e2] at h9
    rw [show 1 + 2 * ps.length + 1 + 1 = 1 + 2 * (ps.length + 1) by omega, show 8 + 15 * ps.length + aw_nf 1 + 10 = 8 + 15 * (ps.length + 1) by show 8 + 15 * ps.length + 5 + 10 = _; omega]
    exact h9
theorem m_T {l : Launch} {g : am_G} (wr : va_W) (t : Nat) : am_C l g 2 17 128 Y_T_init [.inl (some t)] (wr ++ [(t, .inr (2, [.null]))]) (fun ws' => ∃ nd ps, ps.length = 8 ∧ ws' = wr ++ am_tw g t nd ps) := by
  refine am_met (by decide) rfl (Nat.le_of_ble_eq_true rfl) (fun M hM B N E => ?_)
  refine am_aload_n (q := 1) (i := 0) B d_T_init_0 rfl rfl rfl ?_
  refine am_obj (q := 4) B wo_T wo_i wo_c d_T_init_1 (Nat.le_of_ble_eq_true rfl) (by decide) rfl ?_
  refine am_aload_n (q := 5) (i := 0) B d_T_init_4 rfl rfl rfl ?_
  refine am_bipush (q := 7) B d_T_init_5 cb_8 rfl ?_
  refine am_newQ (q := 10) (z := 8) B wl_T_9 rfl (by decide) (by decide) (by decide) d_T_init_7 rfl (fun nd => ?_)
  refine am_putF (q := 13) (j := 0) (fs := [.null]) B N ff_T_11 rfl rfl d_T_init_10 rfl (Nat.le_of_ble_eq_true rfl) rfl ?_
  refine am_iconst (q := 14) B d_T_init_13 ci_0 rfl ?_
  refine am_istore_n (q := 15) (i := 1) B d_T_init_14 rfl (Nat.le_of_ble_eq_true rfl) rfl ?_
  exact m_T_loop (nd := nd) B E 8 [] rfl
theorem m_M {l : Launch} {g : am_G} (wr : va_W) (a n : Nat) (hn : n ≤ 128) : am_C l g 1 2 2176 Y_M_init [.inl (some a), .inr (nI n)] (wr ++ [(a, .inr (0, [.int 0, .null, .null, .int 0, .int 0]))]) (fun ws' => ∃ w c, ws' = wr ++ [(a, .inr (0, [.int (nI n), .ref w, .ref c, .int (nI 0), .int (-1)])), (w, am_ints g (n * 16)), (c, am_ints g n)]) := by
  refine am_met (by decide) rfl (Nat.le_of_ble_eq_true rfl) (fun M hM B N E => ?_)
  refine am_aload_n (q := 1) (i := 0) B d_M_init_0 rfl rfl rfl ?_
  refine am_obj (q := 4) B wo_M wo_i wo_c d_M_init_1 (Nat.le_of_ble_eq_true rfl) (by decide) rfl ?_
  refine am_aload_n (q := 5) (i := 0) B d_M_init_4 rfl rfl rfl ?_
  refine am_iload_n (q := 6) (i := 1) B d_M_init_5 rfl rfl rfl ?_
  refine am_putF (q := 9) (j := 0) (fs := [.int 0, .null, .null, .int 0, .int 0]) B N ff_M_9 (vp_nar_int _) rfl d_M_init_6 rfl (Nat.le_of_ble_eq_true rfl) rfl ?_
  refine am_aload_n (q := 10) (i := 0) B d_M_init_9 rfl rfl rfl ?_
  refine am_iload_n (q := 11) (i := 1) B d_M_init_10 rfl rfl rfl ?_
  refine am_bipush (q := 13) B d_M_init_11 cb_16 rfl ?_
  refine am_imul (q := 14) B d_M_init_13 rfl ?_
  refine am_newI (q := 16) (z := n * 16) B wa_int (pk_mul n 16) (by omega) (by decide) (by omega) d_M_init_14 rfl (fun w => ?_)
  refine am_putF (q := 19) (j := 0) (fs := [.int (nI n), .null, .null, .int 0, .int 0]) B N ff_M_15 rfl rfl d_M_init_16 rfl (Nat.le_of_ble_eq_true rfl) rfl ?_
  refine am_aload_n (q := 20) (i := 0) B d_M_init_19 rfl rfl rfl ?_
  refine am_iload_n (q := 21) (i := 1) B d_M_init_20 rfl rfl rfl ?_
  refine am_newI (q := 23) (z := n) B wa_int rfl (by omega) (by decide) (by omega) d_M_init_21 rfl (fun c => ?_)
  refine am_putF (q := 26) (j := 0) (fs := [.int (nI n), .ref w, .null, .int 0, .int 0]) B N ff_M_19 rfl rfl d_M_init_23 rfl (Nat.le_of_ble_eq_true rfl) rfl ?_
  refine am_aload_n (q := 27) (i := 0) B d_M_init_26 rfl rfl rfl ?_
  refine am_iconst (q := 28) B d_M_init_27 ci_0 rfl ?_
  refine am_putI (q := 31) (j := 0) (fs := [.int (nI n), .ref w, .ref c, .int 0, .int 0]) B fp_M_22 (vp_nar_int _) rfl d_M_init_28 rfl (Nat.le_of_ble_eq_true rfl) rfl ?_
  refine am_aload_n (q := 32) (i := 0) B d_M_init_31 rfl rfl rfl ?_
  refine am_iconst (q := 33) B d_M_init_32 ci_m1 rfl ?_
  refine am_putI (q := 36) (j := 0) (fs := [.int (nI n), .ref w, .ref c, .int (nI 0), .int 0]) B fp_M_25 (vp_nar_int _) rfl d_M_init_33 rfl (Nat.le_of_ble_eq_true rfl) rfl ?_
  exact am_vret B E (by omega) (by omega) d_M_init_36 ⟨w, c, rfl⟩
