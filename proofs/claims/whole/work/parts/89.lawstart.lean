/- the law's start: its two objects, then its loop -/
theorem am_SX_to {M : aw_M} {g : am_G} {b L n k sl : Nat} {xs : Nat → Int32} {ad : Nat → Nat} (hX : am_SX M g b L xs) (eb : ad 1000 = b) : aw_SX (aw_at M k sl) (am_GS g 52 n ad) L xs := by
  obtain ⟨p, l, e, R, s, m, args, below, meth, c, cells, slots, Q⟩ := M
  subst eb
  exact hX
theorem am_law {M : aw_M} {g : am_G} {b L : Nat} {xs : Nat → Int32} (B : am_B M g code 4 "SessionTablesLaw" 9 600000 7302250) (hX : am_SX M g b L xs) (hL : L ≤ 2561) (RET : ∀ n ad ls h, aw_X (aw_at M 52 4737) (am_GS g 52 n ad) 4 658 ls [.inr (nI 1)] h) : am_X M g 4 0 [some (.inl (some b)), none, none, none] [] ([] : va_W) 0 0 := by
  refine am_new (q := 3) (ci := 3) (fs := [.null, .null, .null]) (wr := []) (xs := []) B fy_S rfl uw_S fy_S_ok wl_L_7 wn_S wi_S (fun j hj => by rcases (show j = 0 ∨ j = 1 ∨ j = 2 by have : j < 3 := hj; omega) with rfl | rfl | rfl <;> rfl) (by decide) (by decide) d_L_law_0 rfl (fun a => ?_)
  refine am_dup (q := 4) B d_L_law_3 rfl ?_
  refine am_aload_n (q := 5) (i := 0) B d_L_law_4 rfl rfl rfl ?_
  refine am_iconst (q := 6) B d_L_law_5 ci_0 rfl ?_
  refine am_cell (q := 9) B hX cv_L_9 d_L_law_6 (by omega) (Nat.le_of_ble_eq_true rfl) (by decide) (by decide) (by decide) rfl ?_
  refine am_callI (q := 12) (a := a) (st := [.inl (some a)]) (k := 0 + 1) (sl := 0 + aw_nf 3) (rs := [.inr (am_c0 L xs)]) (ws := ([] : va_W) ++ [(a, .inr (3, [.null, .null, .null]))]) B ci_L_15i d_L_law_9 rfl rfl (Nat.le_of_ble_eq_true rfl) (by decide) (by decide) (by decide) (m_S a (am_c0 L xs)) rfl (fun ws' hw => ?_)
  obtain ⟨ad, h, had, rfl, hC⟩ := hw
  obtain ⟨hn1, hn2⟩ := am_cl_b (am_c0 L xs)
  refine am_astore_n (q := 13) (i := 1) B d_L_law_12 rfl (by decide) rfl ?_
  refine am_new (q := 16) (ci := 4) (fs := am_R0) (wr := []) (xs := aw_w (am_GS g 40 (am_cl (am_c0 L xs)) ad) h) B fy_R rfl uw_R fy_R_ok wl_L_18 wn_R wi_R am_R0_ok (by decide) (by decide) d_L_law_13 rfl (fun r => ?_)
  refine am_dup (q := 17) B d_L_law_16 rfl ?_
  refine am_aload_n (q := 18) (i := 0) B d_L_law_17 rfl rfl rfl ?_
  refine am_iconst (q := 19) B d_L_law_18 ci_0 rfl ?_
  refine am_cell (q := 22) B hX cv_L_9 d_L_law_19 (by omega) (Nat.le_of_ble_eq_true rfl) (by decide) (by decide) (by decide) rfl ?_
  refine am_callI (q := 25) (a := r) (st := [.inl (some r)]) (k := 0 + 1 + 39 + 1) (sl := 0 + aw_nf 3 + 2439 + aw_nf 4) (rs := [.inr (am_c0 L xs)]) (ws := aw_w (am_GS g 40 (am_cl (am_c0 L xs)) ad) h ++ [(r, .inr (4, am_R0))]) B ci_L_20i d_L_law_22 rfl rfl (Nat.le_of_ble_eq_true rfl) (by decide) (by decide) (by decide) (m_R r b (am_c0 L xs) (am_cl (am_c0 L xs)) rfl ad h hC) rfl (fun ws' hw => ?_)
  obtain ⟨ad', h', e1, e2, e3, rfl, hC', hQ'⟩ := hw
  refine am_astore_n (q := 26) (i := 2) B d_L_law_25 rfl (by decide) rfl ?_
  refine am_iconst (q := 27) B d_L_law_26 ci_1 rfl ?_
  refine am_istore_n (q := 28) (i := 3) B d_L_law_27 rfl (by decide) rfl ?_
  generalize am_cl (am_c0 L xs) = n at hn1 hn2 hC' hQ' ⊢
  have e0 : ad' 0 = a := (e1 0 (by decide)).trans had
  refine am_to (G := am_GS g 52 n ad') (st' := []) (ls' := [some (.inl (some 1000)), some (.inl (some 0)), some (.inl (some 40)), some (.inr (nI 1))]) rfl (fun i v' hv => ?_) (fun hok => ?_)
  · rcases i with _ | _ | _ | _ | i
    · cases hv
      exact ⟨_, rfl, by show Value.ref b = Value.ref (ad' 1000); rw [e3]⟩
    · cases hv
      exact ⟨_, rfl, by show Value.ref a = Value.ref (ad' 0); rw [e0]⟩
    · cases hv
      exact ⟨_, rfl, by show Value.ref r = Value.ref (ad' 40); rw [e2]⟩
    · cases hv
      exact ⟨_, rfl, rfl⟩
    · cases hv
  · have hG : gr (am_GS g 52 n ad') := ⟨⟨hok, Nat.le_of_ble_eq_true rfl, hn1, hn2⟩, Nat.le_refl _⟩
    exact law_loop (M := aw_at M 52 4737) hG (am_aB (G := am_GS g 52 n ad') hok B (by decide) (by decide)) (am_SX_to hX e3) hL (RET n ad') L 1 (am_S n) h' (by omega) (by decide) (inv_start hn1 hn2) hC' hQ'
theorem wv_N : Cond.arrayOver (.object aw_Nd) ∈ lw_tbl := List.mem_of_getElem? (i := 86) (by decide +kernel)
theorem am_start {s : State} {args : Array Value} (hta : ∀ w ∈ aw_Ts, w.before args s = true) (hov : va_AO aw_Nd s) : ∃ (D : va_G) (ca : Nat → ClassId), va_K D aw_cl (am_ty ca) s := by
  obtain ⟨d0, i0, k0⟩ := u_known hta uw_M (hta _ wn_M)
  obtain ⟨d1, i1, k1⟩ := u_known hta uw_N (hta _ wn_N)
  obtain ⟨d2, i2, k2⟩ := u_known hta uw_T (hta _ wn_T)
  obtain ⟨d3, i3, k3⟩ := u_known hta uw_S (hta _ wn_S)
  obtain ⟨d4, i4, k4⟩ := u_known hta uw_R (hta _ wn_R)
  obtain ⟨c0, q0, p0, f0, g0, t0⟩ := Cond.arrayClass_spec (hta _ wa_int)
  obtain ⟨c1, q1, p1, f1, g1, t1⟩ := Cond.arrayClass_spec (hta _ wa_boolean)
  obtain ⟨p2, c2, q2, f2, -, g2, t2, f3⟩ := Cond.arrayOver_spec hov
  refine ⟨(fun c => match c with | 0 => d0 | 1 => d1 | 2 => d2 | 3 => d3 | _ => d4, fun c => match c with | 0 => i0 | 1 => i1 | 2 => i2 | 3 => i3 | _ => i4), fun k => match k with | 0 => c0 | 1 => c1 | _ => c2, fun c q hq => ?_, fun k q hq => ?_⟩
  · rcases c with _ | _ | _ | _ | _ | c
    · cases hq; exact k0
    · cases hq; exact k1
    · cases hq; exact k2
    · cases hq; exact k3
    · cases hq; exact k4
    · cases hq
  · rcases k with _ | _ | _ | k
    · cases hq; exact ⟨fun n z => ⟨(fun k h => by cases h), q0, g0, p0, t0⟩, f0⟩
    · cases hq; exact ⟨fun n z => ⟨(fun k h => by cases h), q1, g1, p1, t1⟩, f1⟩
    · cases hq; exact ⟨fun n z => ⟨(fun k h => by cases h), q2, g2, p2, t2⟩, q2, p2, g2, t2, f2, f3⟩
    · cases hq
