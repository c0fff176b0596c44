/- the class's constructor -/
/-- 16 to 128 sectors -/
def am_cl (x : Int32) : Nat := if x < nI 16 then 16 else if nI 128 < x then 128 else x.toNatClampNeg
theorem am_cl_in (x : Int32) (h1 : ¬ x < nI 16) (h2 : ¬ nI 128 < x) : ∃ j : Nat, 16 ≤ j ∧ j ≤ 128 ∧ x = nI j ∧ x.toNatClampNeg = j := by
  have h0 : ¬ x < 0 := fun h => h1 (Int32.lt_trans h (by decide))
  obtain ⟨j, hj, rfl⟩ := nI_of2 (M := nI 128) (n := 128) (by decide) h0 (Int32.not_lt.mp h2)
  refine ⟨j, ?_, hj, rfl, nI_clamp (by omega)⟩
  rcases Nat.lt_or_ge j 16 with h | h
  · exact absurd (nI_lt h (by decide)) h1
  · exact h
theorem am_cl_b (x : Int32) : 16 ≤ am_cl x ∧ am_cl x ≤ 128 := by
  unfold am_cl
  by_cases h1 : x < nI 16
  · rw [if_pos h1]; omega
  · rw [if_neg h1]
    by_cases h2 : nI 128 < x
    · rw [if_pos h2]; omega
    · rw [if_neg h2]
      obtain ⟨j, e1, e2, _, e3⟩ := am_cl_in x h1 h2
      omega
theorem am_cl_mm (x : Int32) : (if nI 16 < (if x < nI 128 then x else nI 128) then (if x < nI 128 then x else nI 128) else nI 16) = nI (am_cl x) := by
  unfold am_cl
  by_cases h1 : x < nI 16
  · rw [if_pos h1]
    have h2 : x < nI 128 := Int32.lt_trans h1 (by decide)
    rw [if_pos h2, if_neg (fun h => absurd (Int32.lt_trans h1 h) (by simp))]
  · rw [if_neg h1]
    by_cases h2 : nI 128 < x
    · rw [if_pos h2, if_neg (fun h => absurd (Int32.lt_trans h2 h) (by simp)), if_pos (by decide)]
    · rw [if_neg h2]
      obtain ⟨j, e1, e2, e3, e4⟩ := am_cl_in x h1 h2
      rw [e4]
      subst e3
      rcases Nat.lt_or_ge j 128 with h | h
      · rw [if_pos (nI_lt h (by decide))]
        rcases Nat.lt_or_ge 16 j with h' | h'
        · rw [if_pos (nI_lt h' (by omega))]
        · rw [if_neg (nI_nlt h' (by decide)), show j = 16 by omega]
      · rw [show j = 128 by omega]
        decide
def am_S (n : Nat) : pz_S := (n, 0, fun _ => 0, 0, pz_empty)
def am_GS (g : am_G) (N n : Nat) (ad : Nat → Nat) : aw_G := (N, n, ad, g.2.2, g.1, g.2.1)
theorem m_S {l : Launch} {g : am_G} (a : Nat) (x : Int32) : am_C l g 3 39 2439 Y_S_init [.inl (some a), .inr x] (([] : va_W) ++ [(a, .inr (3, [.null, .null, .null]))]) (fun ws' => ∃ ad h, ad 0 = a ∧ ws' = aw_w (am_GS g 40 (am_cl x) ad) h ∧ cz (am_GS g 40 (am_cl x) ad) (am_S (am_cl x)) h) := by
  refine am_met (by decide) rfl (Nat.le_of_ble_eq_true rfl) (fun M hM B N E => ?_)
  obtain ⟨hn1, hn2⟩ := am_cl_b x
  refine am_aload_n (q := 1) (i := 0) B d_S_init_0 rfl rfl rfl ?_
  refine am_obj (q := 4) B wo_S wo_i wo_c d_S_init_1 (Nat.le_of_ble_eq_true rfl) (by decide) rfl ?_
  refine am_aload_n (q := 5) (i := 0) B d_S_init_4 rfl rfl rfl ?_
  refine am_new (q := 8) (ci := 0) (fs := [.int 0, .null, .null, .int 0, .int 0]) B fy_M rfl uw_M fy_M_ok wl_S_7 wn_M wi_M (fun j hj => by rcases (show j = 0 ∨ j = 1 ∨ j = 2 ∨ j = 3 ∨ j = 4 by have : j < 5 := hj; omega) with rfl | rfl | rfl | rfl | rfl <;> rfl) (by decide) (by decide) d_S_init_5 rfl (fun m => ?_)
  refine am_dup (q := 9) B d_S_init_8 rfl ?_
  refine am_bipush (q := 11) B d_S_init_9 cb_16 rfl ?_
  refine am_sipush (q := 14) B d_S_init_11 cs_128 rfl ?_
  refine am_iload_n (q := 15) (i := 1) B d_S_init_14 rfl rfl rfl ?_
  refine am_min (q := 18) B ml_S_11 ms_min mi_math mc_min d_S_init_15 (Nat.le_of_ble_eq_true rfl) (by decide) (by decide) (by decide) rfl ?_
  refine am_max (q := 21) B ml_S_17 ms_max mi_math mc_max d_S_init_18 (Nat.le_of_ble_eq_true rfl) (by decide) (by decide) (by decide) rfl ?_
  rw [am_cl_mm]
  generalize hcl : am_cl x = n at hn1 hn2 E ⊢
  refine am_callI (q := 24) (a := m) (st := [.inl (some m), .inl (some a)]) (k := 0 + 1) (sl := 0 + aw_nf 0) (rs := [.inr (nI n)]) (ws := [(a, .inr (3, [.null, .null, .null]))] ++ [(m, .inr (0, [.int 0, .null, .null, .int 0, .int 0]))]) B ci_S_20i d_S_init_21 rfl rfl (Nat.le_of_ble_eq_true rfl) (by decide) (by decide) (by decide) (m_M [(a, .inr (3, [.null, .null, .null]))] m n hn2) rfl (fun ws' hw => ?_)
  obtain ⟨w, c, rfl⟩ := hw
  refine am_putF (q := 27) (j := 0) (fs := [.null, .null, .null]) (wr := []) (xs := [(a, .inr (3, [.null, .null, .null])), (m, .inr (0, [.int (nI n), .ref w, .ref c, .int (nI 0), .int (-1)])), (w, am_ints g (n * 16)), (c, am_ints g n)]) B N ff_S_23 rfl rfl d_S_init_24 rfl (Nat.le_of_ble_eq_true rfl) rfl ?_
  refine am_aload_n (q := 28) (i := 0) B d_S_init_27 rfl rfl rfl ?_
  refine am_new (q := 31) (ci := 2) (fs := [.null]) B fy_T rfl uw_T fy_T_ok wl_S_27 wn_T wi_T (fun j hj => by rcases (show j = 0 by have : j < 1 := hj; omega) with rfl; rfl) (by decide) (by decide) d_S_init_28 rfl (fun t1 => ?_)
  refine am_dup (q := 32) B d_S_init_31 rfl ?_
  refine am_callI (q := 35) (a := t1) (st := [.inl (some t1), .inl (some a)]) (k := 0 + 1 + 2 + 1) (sl := 0 + aw_nf 0 + 2176 + aw_nf 2) (rs := []) (ws := [(a, .inr (3, [.ref m, .null, .null])), (m, .inr (0, [.int (nI n), .ref w, .ref c, .int (nI 0), .int (-1)])), (w, am_ints g (n * 16)), (c, am_ints g n)] ++ [(t1, .inr (2, [.null]))]) B ci_S_29i d_S_init_32 rfl rfl (Nat.le_of_ble_eq_true rfl) (by decide) (by decide) (by decide) (m_T _ t1) rfl (fun ws' hw => ?_)
  obtain ⟨nd1, ps1, hl1, rfl⟩ := hw
  refine am_putF (q := 38) (j := 0) (fs := [.ref m, .null, .null]) (wr := []) (xs := [(a, .inr (3, [.ref m, .null, .null])), (m, .inr (0, [.int (nI n), .ref w, .ref c, .int (nI 0), .int (-1)])), (w, am_ints g (n * 16)), (c, am_ints g n)] ++ am_tw g t1 nd1 ps1) B N ff_S_30 rfl rfl d_S_init_35 rfl (Nat.le_of_ble_eq_true rfl) rfl ?_
  refine am_aload_n (q := 39) (i := 0) B d_S_init_38 rfl rfl rfl ?_
  refine am_new (q := 42) (ci := 2) (fs := [.null]) B fy_T rfl uw_T fy_T_ok wl_S_27 wn_T wi_T (fun j hj => by rcases (show j = 0 by have : j < 1 := hj; omega) with rfl; rfl) (by decide) (by decide) d_S_init_39 rfl (fun t2 => ?_)
  refine am_dup (q := 43) B d_S_init_42 rfl ?_
  refine am_callI (q := 46) (a := t2) (st := [.inl (some t2), .inl (some a)]) (k := 0 + 1 + 2 + 1 + 17 + 1) (sl := 0 + aw_nf 0 + 2176 + aw_nf 2 + 128 + aw_nf 2) (rs := []) (ws := ([(a, .inr (3, [.ref m, .ref t1, .null])), (m, .inr (0, [.int (nI n), .ref w, .ref c, .int (nI 0), .int (-1)])), (w, am_ints g (n * 16)), (c, am_ints g n)] ++ am_tw g t1 nd1 ps1) ++ [(t2, .inr (2, [.null]))]) B ci_S_29i d_S_init_43 rfl rfl (Nat.le_of_ble_eq_true rfl) (by decide) (by decide) (by decide) (m_T _ t2) rfl (fun ws' hw => ?_)
  obtain ⟨nd2, ps2, hl2, rfl⟩ := hw
  refine am_putF (q := 49) (j := 0) (fs := [.ref m, .ref t1, .null]) (wr := []) (xs := ([(a, .inr (3, [.ref m, .ref t1, .null])), (m, .inr (0, [.int (nI n), .ref w, .ref c, .int (nI 0), .int (-1)])), (w, am_ints g (n * 16)), (c, am_ints g n)] ++ am_tw g t1 nd1 ps1) ++ am_tw g t2 nd2 ps2) B N ff_S_34 rfl rfl d_S_init_46 rfl (Nat.le_of_ble_eq_true rfl) rfl ?_
  refine am_aload_n (q := 50) (i := 0) B d_S_init_49 rfl rfl rfl ?_
  refine am_getR (q := 53) (j := 0) (b := t1) (fs := [.ref m, .ref t1, .ref t2]) B fl_S_30 d_S_init_50 rfl rfl rfl ?_
  have hsame := am_sw_ok g n a m w c t1 nd1 t2 nd2 ps1 ps2 hl1 hl2
  have had0 : am_ad a m w c t1 nd1 ps1 t2 nd2 ps2 0 = a := rfl
  have had4 : am_ad a m w c t1 nd1 ps1 t2 nd2 ps2 4 = t1 := rfl
  generalize am_ad a m w c t1 nd1 ps1 t2 nd2 ps2 = ad at hsame had0 had4
  refine am_conv (ws' := aw_w (am_GS g 40 n ad) (am_h0 n)) (am_sameP (by rw [aw_w_len]; exact hsame)) (am_sameD (by rw [aw_w_len]; exact hsame)) ?_
  refine am_to (G := am_GS g 40 n ad) (st' := [.inl (some 4)]) (ls' := [some (.inl (some 0)), none]) (by show [Value.ref t1] = [Value.ref (ad 4)]; rw [had4]) (fun i v' hv => ?_) (fun hok => ?_)
  · rcases i with _ | _ | i
    · cases hv
      exact ⟨_, rfl, by show Value.ref a = Value.ref (ad 0); rw [had0]⟩
    · cases hv
    · cases hv
  · have hG : gz (am_GS g 40 n ad) := ⟨hok, Nat.le_refl _, hn1, hn2⟩
    refine ax_pV0 (q := 56) (am_aB (G := am_GS g 40 n ad) hok B (by decide) (by decide)) cv_S_37 d_S_init_53 ⟨(by show 4 < 40; decide), rfl⟩ (Nat.le_of_ble_eq_true rfl) (by decide) (k_becomeEmpty hok hG.t4 (am_h0 n)) rfl (fun h' hf => ?_)
    obtain ⟨hf1, hf2⟩ := hf
    refine am_from (st := []) (ls := [none, none]) hok rfl (fun i v hv => ?_) ?_
    · rcases i with _ | _ | i <;> cases hv
    · refine am_vret B E (by decide) (by decide) d_S_init_56 ⟨ad, h', had0, rfl, rfl, ⟨⟨?_, ?_⟩, ?_, ?_, Nat.zero_le _, Nat.zero_le _, fun p hp => absurd hp (Nat.not_lt_zero _)⟩, hf1⟩
      · rw [hf2 1 (by omega)]; rfl
      · intro z hz
        rw [hf2 2 (by omega)]
        exact ⟨rfl, (by show 0 < 65536; decide)⟩
      · rw [hf2 1 (by omega)]; rfl
      · rw [hf2 1 (by omega)]; show (-1 : Int32) = nI 0 + (-1); decide
