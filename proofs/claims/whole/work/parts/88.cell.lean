/- the law's own cell(script, 0) -/
theorem cv_L_9 : aw_cs "SessionTablesLaw" 9 Y_L_cell 2 := ⟨aw_mem (List.mem_of_getElem? (i := 390) (by decide +kernel)) rfl, aw_mem (List.mem_of_getElem? (i := 388) (by decide +kernel)) rfl, aw_mem (List.mem_of_getElem? (i := 389) (by decide +kernel)) rfl, by decide +kernel, ⟨by decide +kernel, by decide +kernel, by decide +kernel⟩, by decide⟩
def am_c0 (L : Nat) (xs : Nat → Int32) : Int32 := if 0 < L then xs 0 else nI 0
theorem m_cell {l : Launch} {b L : Nat} {xs : Nat → Int32} (hL : L < 2 ^ 31) : Met l Y_L_cell.1 (aw_ws Y_L_cell) (am_rm 0 0 0) (va_Pc [.ref b, .int (nI 0)] (fun U => va_X b L xs U U.heap)) (va_Qi (fun (r : Int32) (_ : Unit) => r = am_c0 L xs) (fun _ _ => True) (fun _ => False)) 0 0 (fun _ => False) := by
  refine Met.ofW (cc := method_2_code) (maxL := 2) (ret := some .int) (by decide) rfl ?_
  intro p e s m args below meth c s₁ B hml hv
  obtain ⟨rfl, hX⟩ := hv
  have hx := B.exec
  have hb := B.bytes
  have hr := B.returns
  have hlocks := B.notSynchronized
  have hS : va_S (fun _ => False) s.heap s.heap [] := va_S.rf
  have hbl : b < s.heap.size := by
    obtain ⟨scr, h1, -⟩ := hX
    exact (Array.getElem?_eq_some_iff.mp h1).1
  have hl := lv_entry ([.ref b, .int (nI 0)]) (n := 2) (Nat.le_of_ble_eq_true rfl)
  rw [lg_entry_eq]
  generalize (lg_sl ([.ref b, .int (nI 0)]) ++ List.replicate (2 - (lg_sl ([.ref b, .int (nI 0)])).length) Slot.unset).toArray = ls at hl ⊢
  have hl : lv_has ls 2 [(0, .ref b), (1, .int (nI 0))] := hl
  refine lv_iload_n hx hb d_L_cell_0 rfl (lv_at hl 1 rfl) ?_
  refine lv_aload_n hx hb d_L_cell_1 rfl (lv_at hl 0 rfl) ?_
  refine va_slen hx hb hX hbl (fun z => z) hS d_L_cell_2 ?_
  refine lv_icmp_ge (tgt := 12) hx hb d_L_cell_3 rfl (fun z => ?_) (fun z => ?_)
  · have h0 : ¬ 0 < L := fun h => absurd z (nI_ge h hL)
    refine lv_iconst (v := nI 0) hx hb d_L_cell_12 ci_0 ?_
    exact W.iret (v := nI 0) hx hb hr (fun t ht hW => ⟨⟨nI 0, (), rfl, (if_neg h0).symm, trivial⟩, hS.F ht⟩) hS.2.2 d_L_cell_13
  · have h0 : 0 < L := by
      rcases Nat.eq_zero_or_pos L with h | h
      · exact absurd (show nI L ≤ nI 0 by rw [h]; exact Int32.le_refl _) z
      · exact h
    refine lv_aload_n hx hb d_L_cell_6 rfl (lv_at hl 0 rfl) ?_
    refine lv_iload_n hx hb d_L_cell_7 rfl (lv_at hl 1 rfl) ?_
    refine va_sld hx hb hX hbl (fun z => z) hS (vp_in_nI h0 hL) d_L_cell_8 ?_
    refine lv_goto (tgt := 13) hx hb d_L_cell_9 rfl ?_
    exact W.iret (v := xs (nI 0).toNatClampNeg) hx hb hr (fun t ht hW => ⟨⟨_, (), rfl, by rw [nI_clamp (by decide)]; exact (if_pos h0).symm, trivial⟩, hS.F ht⟩) hS.2.2 d_L_cell_13
def am_SX (M : aw_M) (g : am_G) (b L : Nat) (xs : Nat → Int32) : Prop := match M with
  | (_, _, _, _, s, _, _, _, _, _, _, _, _) => va_X b L xs s s.heap ∧ b < s.heap.size ∧ ¬ g.2.1 b
theorem am_cell {M : aw_M} {g : am_G} {cc : ByteArray} {nL d pc q kc ks k sl ix b L : Nat} {own : String} {ls : List (Option aw_V)} {st : List aw_V} {ws : va_W} {xs : Nat → Int32} (B : am_B M g cc nL own d kc ks) (hX : am_SX M g b L xs) (V : aw_cs own ix Y_L_cell 2) (hd : decode cc pc = .ok (.invokestatic ix, 3)) (hL : L < 2 ^ 31) (hst : st.length ≤ 8) (hdd : 0 < d) (hk : k ≤ kc) (hsl : sl ≤ ks) (hq : pc + 3 = q)
    (K : am_X M g nL q ls (.inr (am_c0 L xs) :: st) ws k sl) : am_X M g nL pc ls (.inr (nI 0) :: .inl (some b) :: st) ws k sl := by
  obtain ⟨p, l, e, R, s, m, args, below, meth, c', cells, slots, Q⟩ := M
  subst hq
  obtain ⟨v1, v2, v3, v5, v6, v7⟩ := V
  obtain ⟨b1, b2, b3, b4, b5, b6, b7, b8, b9, b10, b11, b12⟩ := B
  obtain ⟨x1, x2, x3⟩ := hX
  intro H locs la hP hD hS hl
  refine va_calli (va_runS (As := [.ref b, .int (nI 0)]) (rest := st.map (aw_c id)) (n := 2) ⟨b1, b2, b3, b4, b5⟩ (m_cell (b := b) (xs := xs) hL) ⟨callB_of 2 b5 (aw_goodIn (fun w hw => hw) Y_L_cell v1) rfl rfl rfl (b5 _ v5) (b5 _ v2) v6 ⟨by show 0 + 1 ≤ R.frames; omega, by show 8 + (2 + 11) + 40 * 0 ≤ R.locals; omega⟩, b5 _ v3⟩ ⟨fun a U g0 mk q => ⟨q.1, va_X.moved (u := U) (U := U.calling g0 mk a) (Vm.Alike.refl U.vm) q.2⟩, fun U hU hW => ⟨rfl, by show va_X b L xs U U.heap; rw [hU]; exact (va_X.moved hW.alike x1).kept (hS.2.1 b x2 x3)⟩⟩ rfl rfl hl.1 rfl (lv_room (by rw [aw_cats]; exact hst)) hd ⟨by omega, by omega⟩) hS (fun q _ h => absurd h id) (fun q h => absurd h id) (fun r u t H1 locs1 ht hvm hp hb hz hk1 hS1 => ?_)
  subst hp
  exact K H1 locs1 la (fun j q hj => (hP j q hj).kept (hk1 q.1 (hP j q hj).lt id)) hD hS1 hl
