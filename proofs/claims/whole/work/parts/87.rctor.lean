/- the reference's constructor; written by wip/whole/tools/rctor.py -/
def am_bools (g : am_G) (z : Nat) : va_E := .inl (g.2.2 1, z, .inl (fun _ => 0))
def am_R0 : List Value := [.null, .int 0, .int 0, .int 0, .int 0, .null, .null, .null, .null, .null, .null, .null, .null, .null, .null]
theorem am_R0_ok : ∀ j, j < aw_nf 4 → defaultValue (fy_R j) = vp_V am_R0 j := by
  show ∀ j, j < 15 → defaultValue (fy_R j) = vp_V am_R0 j
  exact lt_s (lt_s (lt_s (lt_s (lt_s (lt_s (lt_s (lt_s (lt_s (lt_s (lt_s (lt_s (lt_s (lt_s (lt_s lt_0 rfl) rfl) rfl) rfl) rfl) rfl) rfl) rfl) rfl) rfl) rfl) rfl) rfl) rfl) rfl
theorem am_cl_1 {x : Int32} (h : ¬ nI 16 ≤ x) : am_cl x = 16 := by
  unfold am_cl
  rw [if_pos (Int32.not_le.mp h)]
theorem am_cl_2 {x : Int32} (h1 : nI 16 ≤ x) (h : ¬ x ≤ nI 128) : am_cl x = 128 := by
  unfold am_cl
  rw [if_neg (Int32.not_lt.mpr h1), if_pos (Int32.not_le.mp h)]
theorem am_cl_3 {x : Int32} (h1 : nI 16 ≤ x) (h : x ≤ nI 128) : x = nI (am_cl x) := by
  unfold am_cl
  rw [if_neg (Int32.not_lt.mpr h1), if_neg (Int32.not_lt.mpr h)]
  obtain ⟨j, _, _, e3, e4⟩ := am_cl_in x (Int32.not_lt.mpr h1) (Int32.not_lt.mpr h)
  rw [e4]
  exact e3
theorem am_get40 {G : aw_G} {h : aw_H} {xs : va_W} {j k : Nat} {x : Nat × va_E} (hN : aw_N G = 40) (hk : 40 + j = k) (hx : xs[j]? = some x) : (aw_w G h ++ xs)[k]? = some x := by
  subst hk
  have e := am_get (wr := aw_w G h) hx
  rw [aw_w_len, hN] at e
  exact e
theorem am_getlo {G : aw_G} {h : aw_H} {xs : va_W} {k : Nat} (hk : k < aw_N G) : (aw_w G h ++ xs)[k]? = some (aw_ad G k, aw_e G h k) := by
  rw [List.getElem?_append_left (by rw [aw_w_len]; exact hk)]
  exact aw_w_get hk
def am_rad (ad : Nat → Nat) (b : Nat) (qs : List Nat) : Nat → Nat := fun p => if p < 40 then ad p else if p = 1000 then b else qs.getD (p - 40) 0
def am_rh (n : Nat) (h : aw_H) : aw_H := fun p => if p < 40 then h p else if p = 40 then (fun k => if k = 1 then nI n else 0) else fun _ => 0
def am_rw (g : am_G) (n a q1 q2 q3 q4 q5 q6 q7 q8 q9 q10 q11 : Nat) : va_W := [(a, .inr (4, [.ref q1, .int (nI n), .int 0, .int 0, .int 0, .ref q2, .ref q3, .ref q4, .ref q5, .ref q6, .ref q7, .ref q8, .ref q9, .ref q10, .ref q11])), (q1, am_ints g 2048), (q2, am_ints g 8), (q3, am_ints g 8), (q4, am_ints g 80), (q5, am_bools g 8), (q6, am_ints g 8), (q7, am_ints g 8), (q8, am_ints g 8), (q9, am_ints g 80), (q10, am_ints g 16), (q11, am_bools g 8)]
theorem am_rw_0 (g : am_G) (ad : Nat → Nat) (h : aw_H) (n b a q1 q2 q3 q4 q5 q6 q7 q8 q9 q10 q11 : Nat) : ∃ c e e', (aw_w (am_GS g 40 n ad) h ++ am_rw g n a q1 q2 q3 q4 q5 q6 q7 q8 q9 q10 q11)[0]? = some (c, e) ∧ (aw_w (am_GS g 52 n (am_rad ad b [a, q1, q2, q3, q4, q5, q6, q7, q8, q9, q10, q11])) (am_rh n h))[0]? = some (c, e') ∧ am_eq e e' :=
  ⟨_, _, _, am_getlo (by decide : 0 < 40), aw_w_get (by decide : 0 < 52), Or.inl rfl⟩
theorem am_rw_1 (g : am_G) (ad : Nat → Nat) (h : aw_H) (n b a q1 q2 q3 q4 q5 q6 q7 q8 q9 q10 q11 : Nat) : ∃ c e e', (aw_w (am_GS g 40 n ad) h ++ am_rw g n a q1 q2 q3 q4 q5 q6 q7 q8 q9 q10 q11)[1]? = some (c, e) ∧ (aw_w (am_GS g 52 n (am_rad ad b [a, q1, q2, q3, q4, q5, q6, q7, q8, q9, q10, q11])) (am_rh n h))[1]? = some (c, e') ∧ am_eq e e' :=
  ⟨_, _, _, am_getlo (by decide : 1 < 40), aw_w_get (by decide : 1 < 52), Or.inl rfl⟩
theorem am_rw_2 (g : am_G) (ad : Nat → Nat) (h : aw_H) (n b a q1 q2 q3 q4 q5 q6 q7 q8 q9 q10 q11 : Nat) : ∃ c e e', (aw_w (am_GS g 40 n ad) h ++ am_rw g n a q1 q2 q3 q4 q5 q6 q7 q8 q9 q10 q11)[2]? = some (c, e) ∧ (aw_w (am_GS g 52 n (am_rad ad b [a, q1, q2, q3, q4, q5, q6, q7, q8, q9, q10, q11])) (am_rh n h))[2]? = some (c, e') ∧ am_eq e e' :=
  ⟨_, _, _, am_getlo (by decide : 2 < 40), aw_w_get (by decide : 2 < 52), Or.inl rfl⟩
theorem am_rw_3 (g : am_G) (ad : Nat → Nat) (h : aw_H) (n b a q1 q2 q3 q4 q5 q6 q7 q8 q9 q10 q11 : Nat) : ∃ c e e', (aw_w (am_GS g 40 n ad) h ++ am_rw g n a q1 q2 q3 q4 q5 q6 q7 q8 q9 q10 q11)[3]? = some (c, e) ∧ (aw_w (am_GS g 52 n (am_rad ad b [a, q1, q2, q3, q4, q5, q6, q7, q8, q9, q10, q11])) (am_rh n h))[3]? = some (c, e') ∧ am_eq e e' :=
  ⟨_, _, _, am_getlo (by decide : 3 < 40), aw_w_get (by decide : 3 < 52), Or.inl rfl⟩
theorem am_rw_4 (g : am_G) (ad : Nat → Nat) (h : aw_H) (n b a q1 q2 q3 q4 q5 q6 q7 q8 q9 q10 q11 : Nat) : ∃ c e e', (aw_w (am_GS g 40 n ad) h ++ am_rw g n a q1 q2 q3 q4 q5 q6 q7 q8 q9 q10 q11)[4]? = some (c, e) ∧ (aw_w (am_GS g 52 n (am_rad ad b [a, q1, q2, q3, q4, q5, q6, q7, q8, q9, q10, q11])) (am_rh n h))[4]? = some (c, e') ∧ am_eq e e' :=
  ⟨_, _, _, am_getlo (by decide : 4 < 40), aw_w_get (by decide : 4 < 52), Or.inl rfl⟩
theorem am_rw_5 (g : am_G) (ad : Nat → Nat) (h : aw_H) (n b a q1 q2 q3 q4 q5 q6 q7 q8 q9 q10 q11 : Nat) : ∃ c e e', (aw_w (am_GS g 40 n ad) h ++ am_rw g n a q1 q2 q3 q4 q5 q6 q7 q8 q9 q10 q11)[5]? = some (c, e) ∧ (aw_w (am_GS g 52 n (am_rad ad b [a, q1, q2, q3, q4, q5, q6, q7, q8, q9, q10, q11])) (am_rh n h))[5]? = some (c, e') ∧ am_eq e e' := by
  refine ⟨_, _, _, am_getlo (by decide : 5 < 40), aw_w_get (by decide : 5 < 52), Or.inr ⟨_, _, _, _, rfl, rfl, ?_⟩⟩
  exact lt_s (lt_s (lt_s (lt_s (lt_s (lt_s (lt_s (lt_s lt_0 rfl) rfl) rfl) rfl) rfl) rfl) rfl) rfl
theorem am_rw_6 (g : am_G) (ad : Nat → Nat) (h : aw_H) (n b a q1 q2 q3 q4 q5 q6 q7 q8 q9 q10 q11 : Nat) : ∃ c e e', (aw_w (am_GS g 40 n ad) h ++ am_rw g n a q1 q2 q3 q4 q5 q6 q7 q8 q9 q10 q11)[6]? = some (c, e) ∧ (aw_w (am_GS g 52 n (am_rad ad b [a, q1, q2, q3, q4, q5, q6, q7, q8, q9, q10, q11])) (am_rh n h))[6]? = some (c, e') ∧ am_eq e e' :=
  ⟨_, _, _, am_getlo (by decide : 6 < 40), aw_w_get (by decide : 6 < 52), Or.inl rfl⟩
theorem am_rw_7 (g : am_G) (ad : Nat → Nat) (h : aw_H) (n b a q1 q2 q3 q4 q5 q6 q7 q8 q9 q10 q11 : Nat) : ∃ c e e', (aw_w (am_GS g 40 n ad) h ++ am_rw g n a q1 q2 q3 q4 q5 q6 q7 q8 q9 q10 q11)[7]? = some (c, e) ∧ (aw_w (am_GS g 52 n (am_rad ad b [a, q1, q2, q3, q4, q5, q6, q7, q8, q9, q10, q11])) (am_rh n h))[7]? = some (c, e') ∧ am_eq e e' :=
  ⟨_, _, _, am_getlo (by decide : 7 < 40), aw_w_get (by decide : 7 < 52), Or.inl rfl⟩
theorem am_rw_8 (g : am_G) (ad : Nat → Nat) (h : aw_H) (n b a q1 q2 q3 q4 q5 q6 q7 q8 q9 q10 q11 : Nat) : ∃ c e e', (aw_w (am_GS g 40 n ad) h ++ am_rw g n a q1 q2 q3 q4 q5 q6 q7 q8 q9 q10 q11)[8]? = some (c, e) ∧ (aw_w (am_GS g 52 n (am_rad ad b [a, q1, q2, q3, q4, q5, q6, q7, q8, q9, q10, q11])) (am_rh n h))[8]? = some (c, e') ∧ am_eq e e' :=
  ⟨_, _, _, am_getlo (by decide : 8 < 40), aw_w_get (by decide : 8 < 52), Or.inl rfl⟩
theorem am_rw_9 (g : am_G) (ad : Nat → Nat) (h : aw_H) (n b a q1 q2 q3 q4 q5 q6 q7 q8 q9 q10 q11 : Nat) : ∃ c e e', (aw_w (am_GS g 40 n ad) h ++ am_rw g n a q1 q2 q3 q4 q5 q6 q7 q8 q9 q10 q11)[9]? = some (c, e) ∧ (aw_w (am_GS g 52 n (am_rad ad b [a, q1, q2, q3, q4, q5, q6, q7, q8, q9, q10, q11])) (am_rh n h))[9]? = some (c, e') ∧ am_eq e e' :=
  ⟨_, _, _, am_getlo (by decide : 9 < 40), aw_w_get (by decide : 9 < 52), Or.inl rfl⟩
theorem am_rw_10 (g : am_G) (ad : Nat → Nat) (h : aw_H) (n b a q1 q2 q3 q4 q5 q6 q7 q8 q9 q10 q11 : Nat) : ∃ c e e', (aw_w (am_GS g 40 n ad) h ++ am_rw g n a q1 q2 q3 q4 q5 q6 q7 q8 q9 q10 q11)[10]? = some (c, e) ∧ (aw_w (am_GS g 52 n (am_rad ad b [a, q1, q2, q3, q4, q5, q6, q7, q8, q9, q10, q11])) (am_rh n h))[10]? = some (c, e') ∧ am_eq e e' :=
  ⟨_, _, _, am_getlo (by decide : 10 < 40), aw_w_get (by decide : 10 < 52), Or.inl rfl⟩
theorem am_rw_11 (g : am_G) (ad : Nat → Nat) (h : aw_H) (n b a q1 q2 q3 q4 q5 q6 q7 q8 q9 q10 q11 : Nat) : ∃ c e e', (aw_w (am_GS g 40 n ad) h ++ am_rw g n a q1 q2 q3 q4 q5 q6 q7 q8 q9 q10 q11)[11]? = some (c, e) ∧ (aw_w (am_GS g 52 n (am_rad ad b [a, q1, q2, q3, q4, q5, q6, q7, q8, q9, q10, q11])) (am_rh n h))[11]? = some (c, e') ∧ am_eq e e' :=
  ⟨_, _, _, am_getlo (by decide : 11 < 40), aw_w_get (by decide : 11 < 52), Or.inl rfl⟩
theorem am_rw_12 (g : am_G) (ad : Nat → Nat) (h : aw_H) (n b a q1 q2 q3 q4 q5 q6 q7 q8 q9 q10 q11 : Nat) : ∃ c e e', (aw_w (am_GS g 40 n ad) h ++ am_rw g n a q1 q2 q3 q4 q5 q6 q7 q8 q9 q10 q11)[12]? = some (c, e) ∧ (aw_w (am_GS g 52 n (am_rad ad b [a, q1, q2, q3, q4, q5, q6, q7, q8, q9, q10, q11])) (am_rh n h))[12]? = some (c, e') ∧ am_eq e e' :=
  ⟨_, _, _, am_getlo (by decide : 12 < 40), aw_w_get (by decide : 12 < 52), Or.inl rfl⟩
theorem am_rw_13 (g : am_G) (ad : Nat → Nat) (h : aw_H) (n b a q1 q2 q3 q4 q5 q6 q7 q8 q9 q10 q11 : Nat) : ∃ c e e', (aw_w (am_GS g 40 n ad) h ++ am_rw g n a q1 q2 q3 q4 q5 q6 q7 q8 q9 q10 q11)[13]? = some (c, e) ∧ (aw_w (am_GS g 52 n (am_rad ad b [a, q1, q2, q3, q4, q5, q6, q7, q8, q9, q10, q11])) (am_rh n h))[13]? = some (c, e') ∧ am_eq e e' :=
  ⟨_, _, _, am_getlo (by decide : 13 < 40), aw_w_get (by decide : 13 < 52), Or.inl rfl⟩
theorem am_rw_14 (g : am_G) (ad : Nat → Nat) (h : aw_H) (n b a q1 q2 q3 q4 q5 q6 q7 q8 q9 q10 q11 : Nat) : ∃ c e e', (aw_w (am_GS g 40 n ad) h ++ am_rw g n a q1 q2 q3 q4 q5 q6 q7 q8 q9 q10 q11)[14]? = some (c, e) ∧ (aw_w (am_GS g 52 n (am_rad ad b [a, q1, q2, q3, q4, q5, q6, q7, q8, q9, q10, q11])) (am_rh n h))[14]? = some (c, e') ∧ am_eq e e' :=
  ⟨_, _, _, am_getlo (by decide : 14 < 40), aw_w_get (by decide : 14 < 52), Or.inl rfl⟩
theorem am_rw_15 (g : am_G) (ad : Nat → Nat) (h : aw_H) (n b a q1 q2 q3 q4 q5 q6 q7 q8 q9 q10 q11 : Nat) : ∃ c e e', (aw_w (am_GS g 40 n ad) h ++ am_rw g n a q1 q2 q3 q4 q5 q6 q7 q8 q9 q10 q11)[15]? = some (c, e) ∧ (aw_w (am_GS g 52 n (am_rad ad b [a, q1, q2, q3, q4, q5, q6, q7, q8, q9, q10, q11])) (am_rh n h))[15]? = some (c, e') ∧ am_eq e e' :=
  ⟨_, _, _, am_getlo (by decide : 15 < 40), aw_w_get (by decide : 15 < 52), Or.inl rfl⟩
theorem am_rw_16 (g : am_G) (ad : Nat → Nat) (h : aw_H) (n b a q1 q2 q3 q4 q5 q6 q7 q8 q9 q10 q11 : Nat) : ∃ c e e', (aw_w (am_GS g 40 n ad) h ++ am_rw g n a q1 q2 q3 q4 q5 q6 q7 q8 q9 q10 q11)[16]? = some (c, e) ∧ (aw_w (am_GS g 52 n (am_rad ad b [a, q1, q2, q3, q4, q5, q6, q7, q8, q9, q10, q11])) (am_rh n h))[16]? = some (c, e') ∧ am_eq e e' :=
  ⟨_, _, _, am_getlo (by decide : 16 < 40), aw_w_get (by decide : 16 < 52), Or.inl rfl⟩
theorem am_rw_17 (g : am_G) (ad : Nat → Nat) (h : aw_H) (n b a q1 q2 q3 q4 q5 q6 q7 q8 q9 q10 q11 : Nat) : ∃ c e e', (aw_w (am_GS g 40 n ad) h ++ am_rw g n a q1 q2 q3 q4 q5 q6 q7 q8 q9 q10 q11)[17]? = some (c, e) ∧ (aw_w (am_GS g 52 n (am_rad ad b [a, q1, q2, q3, q4, q5, q6, q7, q8, q9, q10, q11])) (am_rh n h))[17]? = some (c, e') ∧ am_eq e e' :=
  ⟨_, _, _, am_getlo (by decide : 17 < 40), aw_w_get (by decide : 17 < 52), Or.inl rfl⟩
theorem am_rw_18 (g : am_G) (ad : Nat → Nat) (h : aw_H) (n b a q1 q2 q3 q4 q5 q6 q7 q8 q9 q10 q11 : Nat) : ∃ c e e', (aw_w (am_GS g 40 n ad) h ++ am_rw g n a q1 q2 q3 q4 q5 q6 q7 q8 q9 q10 q11)[18]? = some (c, e) ∧ (aw_w (am_GS g 52 n (am_rad ad b [a, q1, q2, q3, q4, q5, q6, q7, q8, q9, q10, q11])) (am_rh n h))[18]? = some (c, e') ∧ am_eq e e' :=
  ⟨_, _, _, am_getlo (by decide : 18 < 40), aw_w_get (by decide : 18 < 52), Or.inl rfl⟩
theorem am_rw_19 (g : am_G) (ad : Nat → Nat) (h : aw_H) (n b a q1 q2 q3 q4 q5 q6 q7 q8 q9 q10 q11 : Nat) : ∃ c e e', (aw_w (am_GS g 40 n ad) h ++ am_rw g n a q1 q2 q3 q4 q5 q6 q7 q8 q9 q10 q11)[19]? = some (c, e) ∧ (aw_w (am_GS g 52 n (am_rad ad b [a, q1, q2, q3, q4, q5, q6, q7, q8, q9, q10, q11])) (am_rh n h))[19]? = some (c, e') ∧ am_eq e e' :=
  ⟨_, _, _, am_getlo (by decide : 19 < 40), aw_w_get (by decide : 19 < 52), Or.inl rfl⟩
theorem am_rw_20 (g : am_G) (ad : Nat → Nat) (h : aw_H) (n b a q1 q2 q3 q4 q5 q6 q7 q8 q9 q10 q11 : Nat) : ∃ c e e', (aw_w (am_GS g 40 n ad) h ++ am_rw g n a q1 q2 q3 q4 q5 q6 q7 q8 q9 q10 q11)[20]? = some (c, e) ∧ (aw_w (am_GS g 52 n (am_rad ad b [a, q1, q2, q3, q4, q5, q6, q7, q8, q9, q10, q11])) (am_rh n h))[20]? = some (c, e') ∧ am_eq e e' :=
  ⟨_, _, _, am_getlo (by decide : 20 < 40), aw_w_get (by decide : 20 < 52), Or.inl rfl⟩
theorem am_rw_21 (g : am_G) (ad : Nat → Nat) (h : aw_H) (n b a q1 q2 q3 q4 q5 q6 q7 q8 q9 q10 q11 : Nat) : ∃ c e e', (aw_w (am_GS g 40 n ad) h ++ am_rw g n a q1 q2 q3 q4 q5 q6 q7 q8 q9 q10 q11)[21]? = some (c, e) ∧ (aw_w (am_GS g 52 n (am_rad ad b [a, q1, q2, q3, q4, q5, q6, q7, q8, q9, q10, q11])) (am_rh n h))[21]? = some (c, e') ∧ am_eq e e' :=
  ⟨_, _, _, am_getlo (by decide : 21 < 40), aw_w_get (by decide : 21 < 52), Or.inl rfl⟩
theorem am_rw_22 (g : am_G) (ad : Nat → Nat) (h : aw_H) (n b a q1 q2 q3 q4 q5 q6 q7 q8 q9 q10 q11 : Nat) : ∃ c e e', (aw_w (am_GS g 40 n ad) h ++ am_rw g n a q1 q2 q3 q4 q5 q6 q7 q8 q9 q10 q11)[22]? = some (c, e) ∧ (aw_w (am_GS g 52 n (am_rad ad b [a, q1, q2, q3, q4, q5, q6, q7, q8, q9, q10, q11])) (am_rh n h))[22]? = some (c, e') ∧ am_eq e e' :=
  ⟨_, _, _, am_getlo (by decide : 22 < 40), aw_w_get (by decide : 22 < 52), Or.inl rfl⟩
theorem am_rw_23 (g : am_G) (ad : Nat → Nat) (h : aw_H) (n b a q1 q2 q3 q4 q5 q6 q7 q8 q9 q10 q11 : Nat) : ∃ c e e', (aw_w (am_GS g 40 n ad) h ++ am_rw g n a q1 q2 q3 q4 q5 q6 q7 q8 q9 q10 q11)[23]? = some (c, e) ∧ (aw_w (am_GS g 52 n (am_rad ad b [a, q1, q2, q3, q4, q5, q6, q7, q8, q9, q10, q11])) (am_rh n h))[23]? = some (c, e') ∧ am_eq e e' := by
  refine ⟨_, _, _, am_getlo (by decide : 23 < 40), aw_w_get (by decide : 23 < 52), Or.inr ⟨_, _, _, _, rfl, rfl, ?_⟩⟩
  exact lt_s (lt_s (lt_s (lt_s (lt_s (lt_s (lt_s (lt_s lt_0 rfl) rfl) rfl) rfl) rfl) rfl) rfl) rfl
theorem am_rw_24 (g : am_G) (ad : Nat → Nat) (h : aw_H) (n b a q1 q2 q3 q4 q5 q6 q7 q8 q9 q10 q11 : Nat) : ∃ c e e', (aw_w (am_GS g 40 n ad) h ++ am_rw g n a q1 q2 q3 q4 q5 q6 q7 q8 q9 q10 q11)[24]? = some (c, e) ∧ (aw_w (am_GS g 52 n (am_rad ad b [a, q1, q2, q3, q4, q5, q6, q7, q8, q9, q10, q11])) (am_rh n h))[24]? = some (c, e') ∧ am_eq e e' :=
  ⟨_, _, _, am_getlo (by decide : 24 < 40), aw_w_get (by decide : 24 < 52), Or.inl rfl⟩
theorem am_rw_25 (g : am_G) (ad : Nat → Nat) (h : aw_H) (n b a q1 q2 q3 q4 q5 q6 q7 q8 q9 q10 q11 : Nat) : ∃ c e e', (aw_w (am_GS g 40 n ad) h ++ am_rw g n a q1 q2 q3 q4 q5 q6 q7 q8 q9 q10 q11)[25]? = some (c, e) ∧ (aw_w (am_GS g 52 n (am_rad ad b [a, q1, q2, q3, q4, q5, q6, q7, q8, q9, q10, q11])) (am_rh n h))[25]? = some (c, e') ∧ am_eq e e' :=
  ⟨_, _, _, am_getlo (by decide : 25 < 40), aw_w_get (by decide : 25 < 52), Or.inl rfl⟩
theorem am_rw_26 (g : am_G) (ad : Nat → Nat) (h : aw_H) (n b a q1 q2 q3 q4 q5 q6 q7 q8 q9 q10 q11 : Nat) : ∃ c e e', (aw_w (am_GS g 40 n ad) h ++ am_rw g n a q1 q2 q3 q4 q5 q6 q7 q8 q9 q10 q11)[26]? = some (c, e) ∧ (aw_w (am_GS g 52 n (am_rad ad b [a, q1, q2, q3, q4, q5, q6, q7, q8, q9, q10, q11])) (am_rh n h))[26]? = some (c, e') ∧ am_eq e e' :=
  ⟨_, _, _, am_getlo (by decide : 26 < 40), aw_w_get (by decide : 26 < 52), Or.inl rfl⟩
theorem am_rw_27 (g : am_G) (ad : Nat → Nat) (h : aw_H) (n b a q1 q2 q3 q4 q5 q6 q7 q8 q9 q10 q11 : Nat) : ∃ c e e', (aw_w (am_GS g 40 n ad) h ++ am_rw g n a q1 q2 q3 q4 q5 q6 q7 q8 q9 q10 q11)[27]? = some (c, e) ∧ (aw_w (am_GS g 52 n (am_rad ad b [a, q1, q2, q3, q4, q5, q6, q7, q8, q9, q10, q11])) (am_rh n h))[27]? = some (c, e') ∧ am_eq e e' :=
  ⟨_, _, _, am_getlo (by decide : 27 < 40), aw_w_get (by decide : 27 < 52), Or.inl rfl⟩
theorem am_rw_28 (g : am_G) (ad : Nat → Nat) (h : aw_H) (n b a q1 q2 q3 q4 q5 q6 q7 q8 q9 q10 q11 : Nat) : ∃ c e e', (aw_w (am_GS g 40 n ad) h ++ am_rw g n a q1 q2 q3 q4 q5 q6 q7 q8 q9 q10 q11)[28]? = some (c, e) ∧ (aw_w (am_GS g 52 n (am_rad ad b [a, q1, q2, q3, q4, q5, q6, q7, q8, q9, q10, q11])) (am_rh n h))[28]? = some (c, e') ∧ am_eq e e' :=
  ⟨_, _, _, am_getlo (by decide : 28 < 40), aw_w_get (by decide : 28 < 52), Or.inl rfl⟩
theorem am_rw_29 (g : am_G) (ad : Nat → Nat) (h : aw_H) (n b a q1 q2 q3 q4 q5 q6 q7 q8 q9 q10 q11 : Nat) : ∃ c e e', (aw_w (am_GS g 40 n ad) h ++ am_rw g n a q1 q2 q3 q4 q5 q6 q7 q8 q9 q10 q11)[29]? = some (c, e) ∧ (aw_w (am_GS g 52 n (am_rad ad b [a, q1, q2, q3, q4, q5, q6, q7, q8, q9, q10, q11])) (am_rh n h))[29]? = some (c, e') ∧ am_eq e e' :=
  ⟨_, _, _, am_getlo (by decide : 29 < 40), aw_w_get (by decide : 29 < 52), Or.inl rfl⟩
theorem am_rw_30 (g : am_G) (ad : Nat → Nat) (h : aw_H) (n b a q1 q2 q3 q4 q5 q6 q7 q8 q9 q10 q11 : Nat) : ∃ c e e', (aw_w (am_GS g 40 n ad) h ++ am_rw g n a q1 q2 q3 q4 q5 q6 q7 q8 q9 q10 q11)[30]? = some (c, e) ∧ (aw_w (am_GS g 52 n (am_rad ad b [a, q1, q2, q3, q4, q5, q6, q7, q8, q9, q10, q11])) (am_rh n h))[30]? = some (c, e') ∧ am_eq e e' :=
  ⟨_, _, _, am_getlo (by decide : 30 < 40), aw_w_get (by decide : 30 < 52), Or.inl rfl⟩
theorem am_rw_31 (g : am_G) (ad : Nat → Nat) (h : aw_H) (n b a q1 q2 q3 q4 q5 q6 q7 q8 q9 q10 q11 : Nat) : ∃ c e e', (aw_w (am_GS g 40 n ad) h ++ am_rw g n a q1 q2 q3 q4 q5 q6 q7 q8 q9 q10 q11)[31]? = some (c, e) ∧ (aw_w (am_GS g 52 n (am_rad ad b [a, q1, q2, q3, q4, q5, q6, q7, q8, q9, q10, q11])) (am_rh n h))[31]? = some (c, e') ∧ am_eq e e' :=
  ⟨_, _, _, am_getlo (by decide : 31 < 40), aw_w_get (by decide : 31 < 52), Or.inl rfl⟩
theorem am_rw_32 (g : am_G) (ad : Nat → Nat) (h : aw_H) (n b a q1 q2 q3 q4 q5 q6 q7 q8 q9 q10 q11 : Nat) : ∃ c e e', (aw_w (am_GS g 40 n ad) h ++ am_rw g n a q1 q2 q3 q4 q5 q6 q7 q8 q9 q10 q11)[32]? = some (c, e) ∧ (aw_w (am_GS g 52 n (am_rad ad b [a, q1, q2, q3, q4, q5, q6, q7, q8, q9, q10, q11])) (am_rh n h))[32]? = some (c, e') ∧ am_eq e e' :=
  ⟨_, _, _, am_getlo (by decide : 32 < 40), aw_w_get (by decide : 32 < 52), Or.inl rfl⟩
theorem am_rw_33 (g : am_G) (ad : Nat → Nat) (h : aw_H) (n b a q1 q2 q3 q4 q5 q6 q7 q8 q9 q10 q11 : Nat) : ∃ c e e', (aw_w (am_GS g 40 n ad) h ++ am_rw g n a q1 q2 q3 q4 q5 q6 q7 q8 q9 q10 q11)[33]? = some (c, e) ∧ (aw_w (am_GS g 52 n (am_rad ad b [a, q1, q2, q3, q4, q5, q6, q7, q8, q9, q10, q11])) (am_rh n h))[33]? = some (c, e') ∧ am_eq e e' :=
  ⟨_, _, _, am_getlo (by decide : 33 < 40), aw_w_get (by decide : 33 < 52), Or.inl rfl⟩
theorem am_rw_34 (g : am_G) (ad : Nat → Nat) (h : aw_H) (n b a q1 q2 q3 q4 q5 q6 q7 q8 q9 q10 q11 : Nat) : ∃ c e e', (aw_w (am_GS g 40 n ad) h ++ am_rw g n a q1 q2 q3 q4 q5 q6 q7 q8 q9 q10 q11)[34]? = some (c, e) ∧ (aw_w (am_GS g 52 n (am_rad ad b [a, q1, q2, q3, q4, q5, q6, q7, q8, q9, q10, q11])) (am_rh n h))[34]? = some (c, e') ∧ am_eq e e' :=
  ⟨_, _, _, am_getlo (by decide : 34 < 40), aw_w_get (by decide : 34 < 52), Or.inl rfl⟩
theorem am_rw_35 (g : am_G) (ad : Nat → Nat) (h : aw_H) (n b a q1 q2 q3 q4 q5 q6 q7 q8 q9 q10 q11 : Nat) : ∃ c e e', (aw_w (am_GS g 40 n ad) h ++ am_rw g n a q1 q2 q3 q4 q5 q6 q7 q8 q9 q10 q11)[35]? = some (c, e) ∧ (aw_w (am_GS g 52 n (am_rad ad b [a, q1, q2, q3, q4, q5, q6, q7, q8, q9, q10, q11])) (am_rh n h))[35]? = some (c, e') ∧ am_eq e e' :=
  ⟨_, _, _, am_getlo (by decide : 35 < 40), aw_w_get (by decide : 35 < 52), Or.inl rfl⟩
theorem am_rw_36 (g : am_G) (ad : Nat → Nat) (h : aw_H) (n b a q1 q2 q3 q4 q5 q6 q7 q8 q9 q10 q11 : Nat) : ∃ c e e', (aw_w (am_GS g 40 n ad) h ++ am_rw g n a q1 q2 q3 q4 q5 q6 q7 q8 q9 q10 q11)[36]? = some (c, e) ∧ (aw_w (am_GS g 52 n (am_rad ad b [a, q1, q2, q3, q4, q5, q6, q7, q8, q9, q10, q11])) (am_rh n h))[36]? = some (c, e') ∧ am_eq e e' :=
  ⟨_, _, _, am_getlo (by decide : 36 < 40), aw_w_get (by decide : 36 < 52), Or.inl rfl⟩
theorem am_rw_37 (g : am_G) (ad : Nat → Nat) (h : aw_H) (n b a q1 q2 q3 q4 q5 q6 q7 q8 q9 q10 q11 : Nat) : ∃ c e e', (aw_w (am_GS g 40 n ad) h ++ am_rw g n a q1 q2 q3 q4 q5 q6 q7 q8 q9 q10 q11)[37]? = some (c, e) ∧ (aw_w (am_GS g 52 n (am_rad ad b [a, q1, q2, q3, q4, q5, q6, q7, q8, q9, q10, q11])) (am_rh n h))[37]? = some (c, e') ∧ am_eq e e' :=
  ⟨_, _, _, am_getlo (by decide : 37 < 40), aw_w_get (by decide : 37 < 52), Or.inl rfl⟩
theorem am_rw_38 (g : am_G) (ad : Nat → Nat) (h : aw_H) (n b a q1 q2 q3 q4 q5 q6 q7 q8 q9 q10 q11 : Nat) : ∃ c e e', (aw_w (am_GS g 40 n ad) h ++ am_rw g n a q1 q2 q3 q4 q5 q6 q7 q8 q9 q10 q11)[38]? = some (c, e) ∧ (aw_w (am_GS g 52 n (am_rad ad b [a, q1, q2, q3, q4, q5, q6, q7, q8, q9, q10, q11])) (am_rh n h))[38]? = some (c, e') ∧ am_eq e e' :=
  ⟨_, _, _, am_getlo (by decide : 38 < 40), aw_w_get (by decide : 38 < 52), Or.inl rfl⟩
theorem am_rw_39 (g : am_G) (ad : Nat → Nat) (h : aw_H) (n b a q1 q2 q3 q4 q5 q6 q7 q8 q9 q10 q11 : Nat) : ∃ c e e', (aw_w (am_GS g 40 n ad) h ++ am_rw g n a q1 q2 q3 q4 q5 q6 q7 q8 q9 q10 q11)[39]? = some (c, e) ∧ (aw_w (am_GS g 52 n (am_rad ad b [a, q1, q2, q3, q4, q5, q6, q7, q8, q9, q10, q11])) (am_rh n h))[39]? = some (c, e') ∧ am_eq e e' :=
  ⟨_, _, _, am_getlo (by decide : 39 < 40), aw_w_get (by decide : 39 < 52), Or.inl rfl⟩
theorem am_rw_40 (g : am_G) (ad : Nat → Nat) (h : aw_H) (n b a q1 q2 q3 q4 q5 q6 q7 q8 q9 q10 q11 : Nat) : ∃ c e e', (aw_w (am_GS g 40 n ad) h ++ am_rw g n a q1 q2 q3 q4 q5 q6 q7 q8 q9 q10 q11)[40]? = some (c, e) ∧ (aw_w (am_GS g 52 n (am_rad ad b [a, q1, q2, q3, q4, q5, q6, q7, q8, q9, q10, q11])) (am_rh n h))[40]? = some (c, e') ∧ am_eq e e' :=
  ⟨_, _, _, am_get40 (j := 0) rfl rfl rfl, aw_w_get (by decide : 40 < 52), Or.inl rfl⟩
theorem am_rw_41 (g : am_G) (ad : Nat → Nat) (h : aw_H) (n b a q1 q2 q3 q4 q5 q6 q7 q8 q9 q10 q11 : Nat) : ∃ c e e', (aw_w (am_GS g 40 n ad) h ++ am_rw g n a q1 q2 q3 q4 q5 q6 q7 q8 q9 q10 q11)[41]? = some (c, e) ∧ (aw_w (am_GS g 52 n (am_rad ad b [a, q1, q2, q3, q4, q5, q6, q7, q8, q9, q10, q11])) (am_rh n h))[41]? = some (c, e') ∧ am_eq e e' :=
  ⟨_, _, _, am_get40 (j := 1) rfl rfl rfl, aw_w_get (by decide : 41 < 52), Or.inl rfl⟩
theorem am_rw_42 (g : am_G) (ad : Nat → Nat) (h : aw_H) (n b a q1 q2 q3 q4 q5 q6 q7 q8 q9 q10 q11 : Nat) : ∃ c e e', (aw_w (am_GS g 40 n ad) h ++ am_rw g n a q1 q2 q3 q4 q5 q6 q7 q8 q9 q10 q11)[42]? = some (c, e) ∧ (aw_w (am_GS g 52 n (am_rad ad b [a, q1, q2, q3, q4, q5, q6, q7, q8, q9, q10, q11])) (am_rh n h))[42]? = some (c, e') ∧ am_eq e e' :=
  ⟨_, _, _, am_get40 (j := 2) rfl rfl rfl, aw_w_get (by decide : 42 < 52), Or.inl rfl⟩
theorem am_rw_43 (g : am_G) (ad : Nat → Nat) (h : aw_H) (n b a q1 q2 q3 q4 q5 q6 q7 q8 q9 q10 q11 : Nat) : ∃ c e e', (aw_w (am_GS g 40 n ad) h ++ am_rw g n a q1 q2 q3 q4 q5 q6 q7 q8 q9 q10 q11)[43]? = some (c, e) ∧ (aw_w (am_GS g 52 n (am_rad ad b [a, q1, q2, q3, q4, q5, q6, q7, q8, q9, q10, q11])) (am_rh n h))[43]? = some (c, e') ∧ am_eq e e' :=
  ⟨_, _, _, am_get40 (j := 3) rfl rfl rfl, aw_w_get (by decide : 43 < 52), Or.inl rfl⟩
theorem am_rw_44 (g : am_G) (ad : Nat → Nat) (h : aw_H) (n b a q1 q2 q3 q4 q5 q6 q7 q8 q9 q10 q11 : Nat) : ∃ c e e', (aw_w (am_GS g 40 n ad) h ++ am_rw g n a q1 q2 q3 q4 q5 q6 q7 q8 q9 q10 q11)[44]? = some (c, e) ∧ (aw_w (am_GS g 52 n (am_rad ad b [a, q1, q2, q3, q4, q5, q6, q7, q8, q9, q10, q11])) (am_rh n h))[44]? = some (c, e') ∧ am_eq e e' :=
  ⟨_, _, _, am_get40 (j := 4) rfl rfl rfl, aw_w_get (by decide : 44 < 52), Or.inl rfl⟩
theorem am_rw_45 (g : am_G) (ad : Nat → Nat) (h : aw_H) (n b a q1 q2 q3 q4 q5 q6 q7 q8 q9 q10 q11 : Nat) : ∃ c e e', (aw_w (am_GS g 40 n ad) h ++ am_rw g n a q1 q2 q3 q4 q5 q6 q7 q8 q9 q10 q11)[45]? = some (c, e) ∧ (aw_w (am_GS g 52 n (am_rad ad b [a, q1, q2, q3, q4, q5, q6, q7, q8, q9, q10, q11])) (am_rh n h))[45]? = some (c, e') ∧ am_eq e e' :=
  ⟨_, _, _, am_get40 (j := 5) rfl rfl rfl, aw_w_get (by decide : 45 < 52), Or.inl rfl⟩
theorem am_rw_46 (g : am_G) (ad : Nat → Nat) (h : aw_H) (n b a q1 q2 q3 q4 q5 q6 q7 q8 q9 q10 q11 : Nat) : ∃ c e e', (aw_w (am_GS g 40 n ad) h ++ am_rw g n a q1 q2 q3 q4 q5 q6 q7 q8 q9 q10 q11)[46]? = some (c, e) ∧ (aw_w (am_GS g 52 n (am_rad ad b [a, q1, q2, q3, q4, q5, q6, q7, q8, q9, q10, q11])) (am_rh n h))[46]? = some (c, e') ∧ am_eq e e' :=
  ⟨_, _, _, am_get40 (j := 6) rfl rfl rfl, aw_w_get (by decide : 46 < 52), Or.inl rfl⟩
theorem am_rw_47 (g : am_G) (ad : Nat → Nat) (h : aw_H) (n b a q1 q2 q3 q4 q5 q6 q7 q8 q9 q10 q11 : Nat) : ∃ c e e', (aw_w (am_GS g 40 n ad) h ++ am_rw g n a q1 q2 q3 q4 q5 q6 q7 q8 q9 q10 q11)[47]? = some (c, e) ∧ (aw_w (am_GS g 52 n (am_rad ad b [a, q1, q2, q3, q4, q5, q6, q7, q8, q9, q10, q11])) (am_rh n h))[47]? = some (c, e') ∧ am_eq e e' :=
  ⟨_, _, _, am_get40 (j := 7) rfl rfl rfl, aw_w_get (by decide : 47 < 52), Or.inl rfl⟩
theorem am_rw_48 (g : am_G) (ad : Nat → Nat) (h : aw_H) (n b a q1 q2 q3 q4 q5 q6 q7 q8 q9 q10 q11 : Nat) : ∃ c e e', (aw_w (am_GS g 40 n ad) h ++ am_rw g n a q1 q2 q3 q4 q5 q6 q7 q8 q9 q10 q11)[48]? = some (c, e) ∧ (aw_w (am_GS g 52 n (am_rad ad b [a, q1, q2, q3, q4, q5, q6, q7, q8, q9, q10, q11])) (am_rh n h))[48]? = some (c, e') ∧ am_eq e e' :=
  ⟨_, _, _, am_get40 (j := 8) rfl rfl rfl, aw_w_get (by decide : 48 < 52), Or.inl rfl⟩
theorem am_rw_49 (g : am_G) (ad : Nat → Nat) (h : aw_H) (n b a q1 q2 q3 q4 q5 q6 q7 q8 q9 q10 q11 : Nat) : ∃ c e e', (aw_w (am_GS g 40 n ad) h ++ am_rw g n a q1 q2 q3 q4 q5 q6 q7 q8 q9 q10 q11)[49]? = some (c, e) ∧ (aw_w (am_GS g 52 n (am_rad ad b [a, q1, q2, q3, q4, q5, q6, q7, q8, q9, q10, q11])) (am_rh n h))[49]? = some (c, e') ∧ am_eq e e' :=
  ⟨_, _, _, am_get40 (j := 9) rfl rfl rfl, aw_w_get (by decide : 49 < 52), Or.inl rfl⟩
theorem am_rw_50 (g : am_G) (ad : Nat → Nat) (h : aw_H) (n b a q1 q2 q3 q4 q5 q6 q7 q8 q9 q10 q11 : Nat) : ∃ c e e', (aw_w (am_GS g 40 n ad) h ++ am_rw g n a q1 q2 q3 q4 q5 q6 q7 q8 q9 q10 q11)[50]? = some (c, e) ∧ (aw_w (am_GS g 52 n (am_rad ad b [a, q1, q2, q3, q4, q5, q6, q7, q8, q9, q10, q11])) (am_rh n h))[50]? = some (c, e') ∧ am_eq e e' :=
  ⟨_, _, _, am_get40 (j := 10) rfl rfl rfl, aw_w_get (by decide : 50 < 52), Or.inl rfl⟩
theorem am_rw_51 (g : am_G) (ad : Nat → Nat) (h : aw_H) (n b a q1 q2 q3 q4 q5 q6 q7 q8 q9 q10 q11 : Nat) : ∃ c e e', (aw_w (am_GS g 40 n ad) h ++ am_rw g n a q1 q2 q3 q4 q5 q6 q7 q8 q9 q10 q11)[51]? = some (c, e) ∧ (aw_w (am_GS g 52 n (am_rad ad b [a, q1, q2, q3, q4, q5, q6, q7, q8, q9, q10, q11])) (am_rh n h))[51]? = some (c, e') ∧ am_eq e e' :=
  ⟨_, _, _, am_get40 (j := 11) rfl rfl rfl, aw_w_get (by decide : 51 < 52), Or.inl rfl⟩
theorem am_rw_all (g : am_G) (ad : Nat → Nat) (h : aw_H) (n b a q1 q2 q3 q4 q5 q6 q7 q8 q9 q10 q11 : Nat) : ∀ k, k < 52 → ∃ c e e', (aw_w (am_GS g 40 n ad) h ++ am_rw g n a q1 q2 q3 q4 q5 q6 q7 q8 q9 q10 q11)[k]? = some (c, e) ∧ (aw_w (am_GS g 52 n (am_rad ad b [a, q1, q2, q3, q4, q5, q6, q7, q8, q9, q10, q11])) (am_rh n h))[k]? = some (c, e') ∧ am_eq e e' :=
  (lt_s (lt_s (lt_s (lt_s (lt_s (lt_s (lt_s (lt_s (lt_s (lt_s (lt_s (lt_s (lt_s (lt_s (lt_s (lt_s (lt_s (lt_s (lt_s (lt_s (lt_s (lt_s (lt_s (lt_s (lt_s (lt_s (lt_s (lt_s (lt_s (lt_s (lt_s (lt_s (lt_s (lt_s (lt_s (lt_s (lt_s (lt_s (lt_s (lt_s (lt_s (lt_s (lt_s (lt_s (lt_s (lt_s (lt_s (lt_s (lt_s (lt_s (lt_s (lt_s lt_0 (am_rw_0 g ad h n b a q1 q2 q3 q4 q5 q6 q7 q8 q9 q10 q11)) (am_rw_1 g ad h n b a q1 q2 q3 q4 q5 q6 q7 q8 q9 q10 q11)) (am_rw_2 g ad h n b a q1 q2 q3 q4 q5 q6 q7 q8 q9 q10 q11)) (am_rw_3 g ad h n b a q1 q2 q3 q4 q5 q6 q7 q8 q9 q10 q11)) (am_rw_4 g ad h n b a q1 q2 q3 q4 q5 q6 q7 q8 q9 q10 q11)) (am_rw_5 g ad h n b a q1 q2 q3 q4 q5 q6 q7 q8 q9 q10 q11)) (am_rw_6 g ad h n b a q1 q2 q3 q4 q5 q6 q7 q8 q9 q10 q11)) (am_rw_7 g ad h n b a q1 q2 q3 q4 q5 q6 q7 q8 q9 q10 q11)) (am_rw_8 g ad h n b a q1 q2 q3 q4 q5 q6 q7 q8 q9 q10 q11)) (am_rw_9 g ad h n b a q1 q2 q3 q4 q5 q6 q7 q8 q9 q10 q11)) (am_rw_10 g ad h n b a q1 q2 q3 q4 q5 q6 q7 q8 q9 q10 q11)) (am_rw_11 g ad h n b a q1 q2 q3 q4 q5 q6 q7 q8 q9 q10 q11)) (am_rw_12 g ad h n b a q1 q2 q3 q4 q5 q6 q7 q8 q9 q10 q11)) (am_rw_13 g ad h n b a q1 q2 q3 q4 q5 q6 q7 q8 q9 q10 q11)) (am_rw_14 g ad h n b a q1 q2 q3 q4 q5 q6 q7 q8 q9 q10 q11)) (am_rw_15 g ad h n b a q1 q2 q3 q4 q5 q6 q7 q8 q9 q10 q11)) (am_rw_16 g ad h n b a q1 q2 q3 q4 q5 q6 q7 q8 q9 q10 q11)) (am_rw_17 g ad h n b a q1 q2 q3 q4 q5 q6 q7 q8 q9 q10 q11)) (am_rw_18 g ad h n b a q1 q2 q3 q4 q5 q6 q7 q8 q9 q10 q11)) (am_rw_19 g ad h n b a q1 q2 q3 q4 q5 q6 q7 q8 q9 q10 q11)) (am_rw_20 g ad h n b a q1 q2 q3 q4 q5 q6 q7 q8 q9 q10 q11)) (am_rw_21 g ad h n b a q1 q2 q3 q4 q5 q6 q7 q8 q9 q10 q11)) (am_rw_22 g ad h n b a q1 q2 q3 q4 q5 q6 q7 q8 q9 q10 q11)) (am_rw_23 g ad h n b a q1 q2 q3 q4 q5 q6 q7 q8 q9 q10 q11)) (am_rw_24 g ad h n b a q1 q2 q3 q4 q5 q6 q7 q8 q9 q10 q11)) (am_rw_25 g ad h n b a q1 q2 q3 q4 q5 q6 q7 q8 q9 q10 q11)) (am_rw_26 g ad h n b a q1 q2 q3 q4 q5 q6 q7 q8 q9 q10 q11)) (am_rw_27 g ad h n b a q1 q2 q3 q4 q5 q6 q7 q8 q9 q10 q11)) (am_rw_28 g ad h n b a q1 q2 q3 q4 q5 q6 q7 q8 q9 q10 q11)) (am_rw_29 g ad h n b a q1 q2 q3 q4 q5 q6 q7 q8 q9 q10 q11)) (am_rw_30 g ad h n b a q1 q2 q3 q4 q5 q6 q7 q8 q9 q10 q11)) (am_rw_31 g ad h n b a q1 q2 q3 q4 q5 q6 q7 q8 q9 q10 q11)) (am_rw_32 g ad h n b a q1 q2 q3 q4 q5 q6 q7 q8 q9 q10 q11)) (am_rw_33 g ad h n b a q1 q2 q3 q4 q5 q6 q7 q8 q9 q10 q11)) (am_rw_34 g ad h n b a q1 q2 q3 q4 q5 q6 q7 q8 q9 q10 q11)) (am_rw_35 g ad h n b a q1 q2 q3 q4 q5 q6 q7 q8 q9 q10 q11)) (am_rw_36 g ad h n b a q1 q2 q3 q4 q5 q6 q7 q8 q9 q10 q11)) (am_rw_37 g ad h n b a q1 q2 q3 q4 q5 q6 q7 q8 q9 q10 q11)) (am_rw_38 g ad h n b a q1 q2 q3 q4 q5 q6 q7 q8 q9 q10 q11)) (am_rw_39 g ad h n b a q1 q2 q3 q4 q5 q6 q7 q8 q9 q10 q11)) (am_rw_40 g ad h n b a q1 q2 q3 q4 q5 q6 q7 q8 q9 q10 q11)) (am_rw_41 g ad h n b a q1 q2 q3 q4 q5 q6 q7 q8 q9 q10 q11)) (am_rw_42 g ad h n b a q1 q2 q3 q4 q5 q6 q7 q8 q9 q10 q11)) (am_rw_43 g ad h n b a q1 q2 q3 q4 q5 q6 q7 q8 q9 q10 q11)) (am_rw_44 g ad h n b a q1 q2 q3 q4 q5 q6 q7 q8 q9 q10 q11)) (am_rw_45 g ad h n b a q1 q2 q3 q4 q5 q6 q7 q8 q9 q10 q11)) (am_rw_46 g ad h n b a q1 q2 q3 q4 q5 q6 q7 q8 q9 q10 q11)) (am_rw_47 g ad h n b a q1 q2 q3 q4 q5 q6 q7 q8 q9 q10 q11)) (am_rw_48 g ad h n b a q1 q2 q3 q4 q5 q6 q7 q8 q9 q10 q11)) (am_rw_49 g ad h n b a q1 q2 q3 q4 q5 q6 q7 q8 q9 q10 q11)) (am_rw_50 g ad h n b a q1 q2 q3 q4 q5 q6 q7 q8 q9 q10 q11)) (am_rw_51 g ad h n b a q1 q2 q3 q4 q5 q6 q7 q8 q9 q10 q11))
theorem m_R {l : Launch} {g : am_G} (a b : Nat) (x : Int32) (n : Nat) (hx : am_cl x = n) (ad : Nat → Nat) (h : aw_H) (hC : cz (am_GS g 40 n ad) (am_S n) h) : am_C l g 1 11 2280 Y_R_init [.inl (some a), .inr x] (aw_w (am_GS g 40 n ad) h ++ [(a, .inr (4, am_R0))]) (fun ws' => ∃ ad' h', (∀ p, p < 40 → ad' p = ad p) ∧ ad' 40 = a ∧ ad' 1000 = b ∧ ws' = aw_w (am_GS g 52 n ad') h' ∧ cz (am_GS g 52 n ad') (am_S n) h' ∧ qz (am_GS g 52 n ad') (am_S n) h') := by
  refine am_met (by decide) rfl (Nat.le_of_ble_eq_true rfl) (fun M hM B N E => ?_)
  have hb := am_cl_b x
  rw [hx] at hb
  obtain ⟨hn1, hn2⟩ := hb
  refine am_aload_n (q := 1) (i := 0) B d_R_init_0 rfl rfl rfl ?_
  refine am_obj (q := 4) B wo_R wo_i wo_c d_R_init_1 (Nat.le_of_ble_eq_true rfl) (by decide) rfl ?_
  refine am_aload_n (q := 5) (i := 0) B d_R_init_4 rfl rfl rfl ?_
  refine am_sipush (q := 8) B d_R_init_5 cs_2048 rfl ?_
  refine am_newI (q := 10) (z := 2048) (wr := aw_w (am_GS g 40 n ad) h) (xs := [(a, .inr (4, [.null, .int 0, .int 0, .int 0, .int 0, .null, .null, .null, .null, .null, .null, .null, .null, .null, .null]))]) B wa_int rfl (by decide) (by decide) (by decide) d_R_init_8 rfl (fun q1 => ?_)
  refine am_putF (q := 13) (j := 0) (fs := [.null, .int 0, .int 0, .int 0, .int 0, .null, .null, .null, .null, .null, .null, .null, .null, .null, .null]) (wr := aw_w (am_GS g 40 n ad) h) (xs := [(a, .inr (4, [.null, .int 0, .int 0, .int 0, .int 0, .null, .null, .null, .null, .null, .null, .null, .null, .null, .null])), (q1, am_ints g 2048)]) B N ff_R_7 rfl rfl d_R_init_10 rfl (Nat.le_of_ble_eq_true rfl) rfl ?_
  refine am_aload_n (q := 14) (i := 0) B d_R_init_13 rfl rfl rfl ?_
  refine am_bipush (q := 16) B d_R_init_14 cb_8 rfl ?_
  refine am_newI (q := 18) (z := 8) (wr := aw_w (am_GS g 40 n ad) h) (xs := [(a, .inr (4, [.ref q1, .int 0, .int 0, .int 0, .int 0, .null, .null, .null, .null, .null, .null, .null, .null, .null, .null])), (q1, am_ints g 2048)]) B wa_int rfl (by decide) (by decide) (by decide) d_R_init_16 rfl (fun q2 => ?_)
  refine am_putF (q := 21) (j := 0) (fs := [.ref q1, .int 0, .int 0, .int 0, .int 0, .null, .null, .null, .null, .null, .null, .null, .null, .null, .null]) (wr := aw_w (am_GS g 40 n ad) h) (xs := [(a, .inr (4, [.ref q1, .int 0, .int 0, .int 0, .int 0, .null, .null, .null, .null, .null, .null, .null, .null, .null, .null])), (q1, am_ints g 2048), (q2, am_ints g 8)]) B N ff_R_13 rfl rfl d_R_init_18 rfl (Nat.le_of_ble_eq_true rfl) rfl ?_
  refine am_aload_n (q := 22) (i := 0) B d_R_init_21 rfl rfl rfl ?_
  refine am_bipush (q := 24) B d_R_init_22 cb_8 rfl ?_
  refine am_newI (q := 26) (z := 8) (wr := aw_w (am_GS g 40 n ad) h) (xs := [(a, .inr (4, [.ref q1, .int 0, .int 0, .int 0, .int 0, .ref q2, .null, .null, .null, .null, .null, .null, .null, .null, .null])), (q1, am_ints g 2048), (q2, am_ints g 8)]) B wa_int rfl (by decide) (by decide) (by decide) d_R_init_24 rfl (fun q3 => ?_)
  refine am_putF (q := 29) (j := 0) (fs := [.ref q1, .int 0, .int 0, .int 0, .int 0, .ref q2, .null, .null, .null, .null, .null, .null, .null, .null, .null]) (wr := aw_w (am_GS g 40 n ad) h) (xs := [(a, .inr (4, [.ref q1, .int 0, .int 0, .int 0, .int 0, .ref q2, .null, .null, .null, .null, .null, .null, .null, .null, .null])), (q1, am_ints g 2048), (q2, am_ints g 8), (q3, am_ints g 8)]) B N ff_R_16 rfl rfl d_R_init_26 rfl (Nat.le_of_ble_eq_true rfl) rfl ?_
  refine am_aload_n (q := 30) (i := 0) B d_R_init_29 rfl rfl rfl ?_
  refine am_bipush (q := 32) B d_R_init_30 cb_80 rfl ?_
  refine am_newI (q := 34) (z := 80) (wr := aw_w (am_GS g 40 n ad) h) (xs := [(a, .inr (4, [.ref q1, .int 0, .int 0, .int 0, .int 0, .ref q2, .ref q3, .null, .null, .null, .null, .null, .null, .null, .null])), (q1, am_ints g 2048), (q2, am_ints g 8), (q3, am_ints g 8)]) B wa_int rfl (by decide) (by decide) (by decide) d_R_init_32 rfl (fun q4 => ?_)
  refine am_putF (q := 37) (j := 0) (fs := [.ref q1, .int 0, .int 0, .int 0, .int 0, .ref q2, .ref q3, .null, .null, .null, .null, .null, .null, .null, .null]) (wr := aw_w (am_GS g 40 n ad) h) (xs := [(a, .inr (4, [.ref q1, .int 0, .int 0, .int 0, .int 0, .ref q2, .ref q3, .null, .null, .null, .null, .null, .null, .null, .null])), (q1, am_ints g 2048), (q2, am_ints g 8), (q3, am_ints g 8), (q4, am_ints g 80)]) B N ff_R_19 rfl rfl d_R_init_34 rfl (Nat.le_of_ble_eq_true rfl) rfl ?_
  refine am_aload_n (q := 38) (i := 0) B d_R_init_37 rfl rfl rfl ?_
  refine am_bipush (q := 40) B d_R_init_38 cb_8 rfl ?_
  refine am_newZ (q := 42) (z := 8) (wr := aw_w (am_GS g 40 n ad) h) (xs := [(a, .inr (4, [.ref q1, .int 0, .int 0, .int 0, .int 0, .ref q2, .ref q3, .ref q4, .null, .null, .null, .null, .null, .null, .null])), (q1, am_ints g 2048), (q2, am_ints g 8), (q3, am_ints g 8), (q4, am_ints g 80)]) B wa_boolean rfl (by decide) (by decide) (by decide) d_R_init_40 rfl (fun q5 => ?_)
  refine am_putF (q := 45) (j := 0) (fs := [.ref q1, .int 0, .int 0, .int 0, .int 0, .ref q2, .ref q3, .ref q4, .null, .null, .null, .null, .null, .null, .null]) (wr := aw_w (am_GS g 40 n ad) h) (xs := [(a, .inr (4, [.ref q1, .int 0, .int 0, .int 0, .int 0, .ref q2, .ref q3, .ref q4, .null, .null, .null, .null, .null, .null, .null])), (q1, am_ints g 2048), (q2, am_ints g 8), (q3, am_ints g 8), (q4, am_ints g 80), (q5, am_bools g 8)]) B N ff_R_22 rfl rfl d_R_init_42 rfl (Nat.le_of_ble_eq_true rfl) rfl ?_
  refine am_aload_n (q := 46) (i := 0) B d_R_init_45 rfl rfl rfl ?_
  refine am_bipush (q := 48) B d_R_init_46 cb_8 rfl ?_
  refine am_newI (q := 50) (z := 8) (wr := aw_w (am_GS g 40 n ad) h) (xs := [(a, .inr (4, [.ref q1, .int 0, .int 0, .int 0, .int 0, .ref q2, .ref q3, .ref q4, .ref q5, .null, .null, .null, .null, .null, .null])), (q1, am_ints g 2048), (q2, am_ints g 8), (q3, am_ints g 8), (q4, am_ints g 80), (q5, am_bools g 8)]) B wa_int rfl (by decide) (by decide) (by decide) d_R_init_48 rfl (fun q6 => ?_)
  refine am_putF (q := 53) (j := 0) (fs := [.ref q1, .int 0, .int 0, .int 0, .int 0, .ref q2, .ref q3, .ref q4, .ref q5, .null, .null, .null, .null, .null, .null]) (wr := aw_w (am_GS g 40 n ad) h) (xs := [(a, .inr (4, [.ref q1, .int 0, .int 0, .int 0, .int 0, .ref q2, .ref q3, .ref q4, .ref q5, .null, .null, .null, .null, .null, .null])), (q1, am_ints g 2048), (q2, am_ints g 8), (q3, am_ints g 8), (q4, am_ints g 80), (q5, am_bools g 8), (q6, am_ints g 8)]) B N ff_R_26 rfl rfl d_R_init_50 rfl (Nat.le_of_ble_eq_true rfl) rfl ?_
  refine am_aload_n (q := 54) (i := 0) B d_R_init_53 rfl rfl rfl ?_
  refine am_bipush (q := 56) B d_R_init_54 cb_8 rfl ?_
  refine am_newI (q := 58) (z := 8) (wr := aw_w (am_GS g 40 n ad) h) (xs := [(a, .inr (4, [.ref q1, .int 0, .int 0, .int 0, .int 0, .ref q2, .ref q3, .ref q4, .ref q5, .ref q6, .null, .null, .null, .null, .null])), (q1, am_ints g 2048), (q2, am_ints g 8), (q3, am_ints g 8), (q4, am_ints g 80), (q5, am_bools g 8), (q6, am_ints g 8)]) B wa_int rfl (by decide) (by decide) (by decide) d_R_init_56 rfl (fun q7 => ?_)
  refine am_putF (q := 61) (j := 0) (fs := [.ref q1, .int 0, .int 0, .int 0, .int 0, .ref q2, .ref q3, .ref q4, .ref q5, .ref q6, .null, .null, .null, .null, .null]) (wr := aw_w (am_GS g 40 n ad) h) (xs := [(a, .inr (4, [.ref q1, .int 0, .int 0, .int 0, .int 0, .ref q2, .ref q3, .ref q4, .ref q5, .ref q6, .null, .null, .null, .null, .null])), (q1, am_ints g 2048), (q2, am_ints g 8), (q3, am_ints g 8), (q4, am_ints g 80), (q5, am_bools g 8), (q6, am_ints g 8), (q7, am_ints g 8)]) B N ff_R_29 rfl rfl d_R_init_58 rfl (Nat.le_of_ble_eq_true rfl) rfl ?_
  refine am_aload_n (q := 62) (i := 0) B d_R_init_61 rfl rfl rfl ?_
  refine am_bipush (q := 64) B d_R_init_62 cb_8 rfl ?_
  refine am_newI (q := 66) (z := 8) (wr := aw_w (am_GS g 40 n ad) h) (xs := [(a, .inr (4, [.ref q1, .int 0, .int 0, .int 0, .int 0, .ref q2, .ref q3, .ref q4, .ref q5, .ref q6, .ref q7, .null, .null, .null, .null])), (q1, am_ints g 2048), (q2, am_ints g 8), (q3, am_ints g 8), (q4, am_ints g 80), (q5, am_bools g 8), (q6, am_ints g 8), (q7, am_ints g 8)]) B wa_int rfl (by decide) (by decide) (by decide) d_R_init_64 rfl (fun q8 => ?_)
  refine am_putF (q := 69) (j := 0) (fs := [.ref q1, .int 0, .int 0, .int 0, .int 0, .ref q2, .ref q3, .ref q4, .ref q5, .ref q6, .ref q7, .null, .null, .null, .null]) (wr := aw_w (am_GS g 40 n ad) h) (xs := [(a, .inr (4, [.ref q1, .int 0, .int 0, .int 0, .int 0, .ref q2, .ref q3, .ref q4, .ref q5, .ref q6, .ref q7, .null, .null, .null, .null])), (q1, am_ints g 2048), (q2, am_ints g 8), (q3, am_ints g 8), (q4, am_ints g 80), (q5, am_bools g 8), (q6, am_ints g 8), (q7, am_ints g 8), (q8, am_ints g 8)]) B N ff_R_32 rfl rfl d_R_init_66 rfl (Nat.le_of_ble_eq_true rfl) rfl ?_
  refine am_aload_n (q := 70) (i := 0) B d_R_init_69 rfl rfl rfl ?_
  refine am_bipush (q := 72) B d_R_init_70 cb_80 rfl ?_
  refine am_newI (q := 74) (z := 80) (wr := aw_w (am_GS g 40 n ad) h) (xs := [(a, .inr (4, [.ref q1, .int 0, .int 0, .int 0, .int 0, .ref q2, .ref q3, .ref q4, .ref q5, .ref q6, .ref q7, .ref q8, .null, .null, .null])), (q1, am_ints g 2048), (q2, am_ints g 8), (q3, am_ints g 8), (q4, am_ints g 80), (q5, am_bools g 8), (q6, am_ints g 8), (q7, am_ints g 8), (q8, am_ints g 8)]) B wa_int rfl (by decide) (by decide) (by decide) d_R_init_72 rfl (fun q9 => ?_)
  refine am_putF (q := 77) (j := 0) (fs := [.ref q1, .int 0, .int 0, .int 0, .int 0, .ref q2, .ref q3, .ref q4, .ref q5, .ref q6, .ref q7, .ref q8, .null, .null, .null]) (wr := aw_w (am_GS g 40 n ad) h) (xs := [(a, .inr (4, [.ref q1, .int 0, .int 0, .int 0, .int 0, .ref q2, .ref q3, .ref q4, .ref q5, .ref q6, .ref q7, .ref q8, .null, .null, .null])), (q1, am_ints g 2048), (q2, am_ints g 8), (q3, am_ints g 8), (q4, am_ints g 80), (q5, am_bools g 8), (q6, am_ints g 8), (q7, am_ints g 8), (q8, am_ints g 8), (q9, am_ints g 80)]) B N ff_R_35 rfl rfl d_R_init_74 rfl (Nat.le_of_ble_eq_true rfl) rfl ?_
  refine am_aload_n (q := 78) (i := 0) B d_R_init_77 rfl rfl rfl ?_
  refine am_bipush (q := 80) B d_R_init_78 cb_16 rfl ?_
  refine am_newI (q := 82) (z := 16) (wr := aw_w (am_GS g 40 n ad) h) (xs := [(a, .inr (4, [.ref q1, .int 0, .int 0, .int 0, .int 0, .ref q2, .ref q3, .ref q4, .ref q5, .ref q6, .ref q7, .ref q8, .ref q9, .null, .null])), (q1, am_ints g 2048), (q2, am_ints g 8), (q3, am_ints g 8), (q4, am_ints g 80), (q5, am_bools g 8), (q6, am_ints g 8), (q7, am_ints g 8), (q8, am_ints g 8), (q9, am_ints g 80)]) B wa_int rfl (by decide) (by decide) (by decide) d_R_init_80 rfl (fun q10 => ?_)
  refine am_putF (q := 85) (j := 0) (fs := [.ref q1, .int 0, .int 0, .int 0, .int 0, .ref q2, .ref q3, .ref q4, .ref q5, .ref q6, .ref q7, .ref q8, .ref q9, .null, .null]) (wr := aw_w (am_GS g 40 n ad) h) (xs := [(a, .inr (4, [.ref q1, .int 0, .int 0, .int 0, .int 0, .ref q2, .ref q3, .ref q4, .ref q5, .ref q6, .ref q7, .ref q8, .ref q9, .null, .null])), (q1, am_ints g 2048), (q2, am_ints g 8), (q3, am_ints g 8), (q4, am_ints g 80), (q5, am_bools g 8), (q6, am_ints g 8), (q7, am_ints g 8), (q8, am_ints g 8), (q9, am_ints g 80), (q10, am_ints g 16)]) B N ff_R_38 rfl rfl d_R_init_82 rfl (Nat.le_of_ble_eq_true rfl) rfl ?_
  refine am_aload_n (q := 86) (i := 0) B d_R_init_85 rfl rfl rfl ?_
  refine am_bipush (q := 88) B d_R_init_86 cb_8 rfl ?_
  refine am_newZ (q := 90) (z := 8) (wr := aw_w (am_GS g 40 n ad) h) (xs := [(a, .inr (4, [.ref q1, .int 0, .int 0, .int 0, .int 0, .ref q2, .ref q3, .ref q4, .ref q5, .ref q6, .ref q7, .ref q8, .ref q9, .ref q10, .null])), (q1, am_ints g 2048), (q2, am_ints g 8), (q3, am_ints g 8), (q4, am_ints g 80), (q5, am_bools g 8), (q6, am_ints g 8), (q7, am_ints g 8), (q8, am_ints g 8), (q9, am_ints g 80), (q10, am_ints g 16)]) B wa_boolean rfl (by decide) (by decide) (by decide) d_R_init_88 rfl (fun q11 => ?_)
  refine am_putF (q := 93) (j := 0) (fs := [.ref q1, .int 0, .int 0, .int 0, .int 0, .ref q2, .ref q3, .ref q4, .ref q5, .ref q6, .ref q7, .ref q8, .ref q9, .ref q10, .null]) (wr := aw_w (am_GS g 40 n ad) h) (xs := [(a, .inr (4, [.ref q1, .int 0, .int 0, .int 0, .int 0, .ref q2, .ref q3, .ref q4, .ref q5, .ref q6, .ref q7, .ref q8, .ref q9, .ref q10, .null])), (q1, am_ints g 2048), (q2, am_ints g 8), (q3, am_ints g 8), (q4, am_ints g 80), (q5, am_bools g 8), (q6, am_ints g 8), (q7, am_ints g 8), (q8, am_ints g 8), (q9, am_ints g 80), (q10, am_ints g 16), (q11, am_bools g 8)]) B N ff_R_41 rfl rfl d_R_init_90 rfl (Nat.le_of_ble_eq_true rfl) rfl ?_
  have tail : am_X M g 2 119 [some (.inl (some a)), some (.inr x)] [.inr (nI n), .inl (some a)] (aw_w (am_GS g 40 n ad) h ++ [(a, .inr (4, [.ref q1, .int 0, .int 0, .int 0, .int 0, .ref q2, .ref q3, .ref q4, .ref q5, .ref q6, .ref q7, .ref q8, .ref q9, .ref q10, .ref q11])), (q1, am_ints g 2048), (q2, am_ints g 8), (q3, am_ints g 8), (q4, am_ints g 80), (q5, am_bools g 8), (q6, am_ints g 8), (q7, am_ints g 8), (q8, am_ints g 8), (q9, am_ints g 80), (q10, am_ints g 16), (q11, am_bools g 8)]) 11 2280 := by
    refine am_putI (q := 122) (j := 0) (fs := [.ref q1, .int 0, .int 0, .int 0, .int 0, .ref q2, .ref q3, .ref q4, .ref q5, .ref q6, .ref q7, .ref q8, .ref q9, .ref q10, .ref q11]) B fp_R_44 (vp_nar_int _) rfl d_R_init_119 rfl (Nat.le_of_ble_eq_true rfl) rfl ?_
    refine am_aload_n (q := 123) (i := 0) B d_R_init_122 rfl rfl rfl ?_
    have hsame := am_rw_all g ad h n b a q1 q2 q3 q4 q5 q6 q7 q8 q9 q10 q11
    have had : ∀ p, p < 40 → am_rad ad b [a, q1, q2, q3, q4, q5, q6, q7, q8, q9, q10, q11] p = ad p := fun p hp => if_pos hp
    have had0 : am_rad ad b [a, q1, q2, q3, q4, q5, q6, q7, q8, q9, q10, q11] 40 = a := rfl
    have had1 : am_rad ad b [a, q1, q2, q3, q4, q5, q6, q7, q8, q9, q10, q11] 1000 = b := rfl
    generalize am_rad ad b [a, q1, q2, q3, q4, q5, q6, q7, q8, q9, q10, q11] = ad' at hsame had had0 had1
    refine am_conv (ws' := aw_w (am_GS g 52 n ad') (am_rh n h)) (am_sameP (by rw [aw_w_len]; exact hsame)) (am_sameD (by rw [aw_w_len]; exact hsame)) ?_
    refine am_to (G := am_GS g 52 n ad') (st' := [.inl (some 40)]) (ls' := [some (.inl (some 40)), none]) (by show [Value.ref a] = [Value.ref (ad' 40)]; rw [had0]) (fun i v' hv => ?_) (fun hok => ?_)
    · rcases i with _ | _ | i
      · cases hv
        exact ⟨_, rfl, by show Value.ref a = Value.ref (ad' 40); rw [had0]⟩
      · cases hv
      · cases hv
    · have hG : gr (am_GS g 52 n ad') := ⟨⟨hok, Nat.le_of_ble_eq_true rfl, hn1, hn2⟩, Nat.le_refl _⟩
      refine ax_pV0 (q := 126) (am_aB (G := am_GS g 52 n ad') hok B (by decide) (by decide)) cv_R_48 d_R_init_123 hG.i40 (Nat.le_of_ble_eq_true rfl) (by decide) (r_empty hG (am_rh n h)) rfl (fun h' hf => ?_)
      obtain ⟨hf1, hf2⟩ := hf
      refine am_from (st := []) (ls := [none, none]) hok rfl (fun i v hv => ?_) ?_
      · rcases i with _ | _ | i <;> cases hv
      · have e40 : h' 40 = am_rh n h 40 := hf2 40 (by omega)
        refine am_vret B E (by decide) (by decide) d_R_init_126 ⟨ad', h', had, had0, had1, rfl, ?_, rfl, ?_, ?_, hf1⟩
        · refine (show cz (am_GS g 52 n ad') (am_S n) h from hC).kept (fun q hq => ?_)
          rw [hf2 q (by omega)]
          exact if_pos hq
        · intro z hz
          rw [hf2 41 (by omega)]
          exact ⟨rfl, (by show 0 < 65536; decide)⟩
        · unfold rm_
          rw [e40]
          exact ⟨rfl, rfl, Nat.zero_le _, Nat.zero_le _, rfl, fun z => absurd rfl z⟩
  refine am_aload_n (q := 94) (i := 0) B d_R_init_93 rfl rfl rfl ?_
  refine am_iload_n (q := 95) (i := 1) B d_R_init_94 rfl rfl rfl ?_
  refine am_bipush (q := 97) B d_R_init_95 cb_16 rfl ?_
  refine am_icmp_ge (q := 105) (q2 := 100) B d_R_init_97 rfl rfl (fun h1 => ?_) (fun h1 => ?_)
  · refine am_iload_n (q := 106) (i := 1) B d_R_init_105 rfl rfl rfl ?_
    refine am_sipush (q := 109) B d_R_init_106 cs_128 rfl ?_
    refine am_icmp_le (q := 118) (q2 := 112) B d_R_init_109 rfl rfl (fun h2 => ?_) (fun h2 => ?_)
    · refine am_iload_n (q := 119) (i := 1) B d_R_init_118 rfl rfl rfl ?_
      have e := am_cl_3 h1 h2
      rw [hx] at e
      rw [← e] at tail
      exact tail
    · refine am_sipush (q := 115) B d_R_init_112 cs_128 rfl ?_
      refine am_goto (q := 119) B d_R_init_115 rfl ?_
      have e := am_cl_2 h1 h2
      rw [hx] at e
      have e2 : nI n = nI 128 := by rw [e]
      rw [e2] at tail
      exact tail
  · refine am_bipush (q := 102) B d_R_init_100 cb_16 rfl ?_
    refine am_goto (q := 119) B d_R_init_102 rfl ?_
    have e := am_cl_1 h1
    rw [hx] at e
    have e2 : nI n = nI 16 := by rw [e]
    rw [e2] at tail
    exact tail
