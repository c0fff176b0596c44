theorem inv_make {S : pz_S} (h : pz_inv S) (dir name : Int32) (b : Bool) : pz_inv (pz_make S dir name b).2 := by
  obtain ⟨n, k, w, sp, t⟩ := S
  obtain ⟨h1, h2, h3, h4, h5, h6, h7⟩ := pz_inv_to h
  unfold pz_make
  dsimp only
  split
  · exact h
  · rename_i d hx
    obtain ⟨hd8, hk1, -⟩ := pz_nd_lt hx
    have hk1 : pz_kd t d = 1 := beq_iff_eq.mp hk1
    split
    · exact h
    · rename_i hnm
      split
      · exact h
      · split
        · exact h
        · rename_i m hle
          obtain ⟨hm8, hm0⟩ := pz_least_some 8 hle
          split
          · exact h
          · have hnm : pz_small name 100 = true := by
              cases hz : pz_small name 100 with
              | true => rfl
              | false => exact absurd hz hnm
            obtain ⟨x, hx100, rfl⟩ := pz_small_e (by omega) hnm
            rw [nI_clamp (by omega)]
            refine pz_inv_of h1 h2 h3 h4 h5 (pz_wf_make h6 hd8 hk1 hm8 hm0 (by cases b <;> simp) hx100) (fun i hi h0 hc => ?_)
            have him : i ≠ m := fun z => by
              have hc : pz_up (pz_up (pz_ch t) m true) d true i = false := hc
              subst z
              by_cases hid : i = d
              · subst hid; rw [pz_up_s] at hc; cases hc
              · rw [pz_up_n hid, pz_up_s] at hc; cases hc
            have hid : i ≠ d := fun z => by
              have hc : pz_up (pz_up (pz_ch t) m true) d true i = false := hc
              subst z
              rw [pz_up_s] at hc; cases hc
            have q1 : pz_kd (pz_add (pz_new t m (if b = true then 1 else 2)) d (16 * x + m)) i = pz_kd t i := pz_up_n him
            have q2 : pz_ct (pz_add (pz_new t m (if b = true then 1 else 2)) d (16 * x + m)) i = pz_ct t i := by
              show pz_up (pz_up (pz_ct t) m 0) d _ i = _
              rw [pz_up_n hid, pz_up_n him]
            have q3 : pz_ch (pz_add (pz_new t m (if b = true then 1 else 2)) d (16 * x + m)) i = pz_ch t i := by
              show pz_up (pz_up (pz_ch t) m true) d true i = _
              rw [pz_up_n hid, pz_up_n him]
            have q4 : pz_en (pz_add (pz_new t m (if b = true then 1 else 2)) d (16 * x + m)) i = pz_en t i := pz_up_n him
            have q5 : ∀ s, pz_it (pz_add (pz_new t m (if b = true then 1 else 2)) d (16 * x + m)) i s = pz_it t i s := fun s => by
              show pz_up (pz_it t) d _ i s = _
              rw [pz_up_n hid]
            rw [q1] at h0
            rw [q3] at hc
            rw [q1, q2, q4]
            obtain ⟨a1, a2, a3, a4, a5⟩ := h7 i hi h0 hc
            exact ⟨a1, a2, a3, a4, fun s hs => by rw [q5 s]; exact a5 s hs⟩
theorem inv_write {S : pz_S} (h : pz_inv S) (file y v : Int32) : pz_inv (pz_write S file y v).2 := by
  obtain ⟨n, k, w, sp, t⟩ := S
  obtain ⟨h1, h2, h3, h4, h5, h6, h7⟩ := pz_inv_to h
  unfold pz_write
  dsimp only
  split
  · exact h
  · rename_i f hx
    obtain ⟨hf8, hk2, -⟩ := pz_nd_lt hx
    have hk2 : pz_kd t f = 2 := beq_iff_eq.mp hk2
    have hc10 := h6.ct10 hf8
    split
    · exact h
    · rename_i hv
      split
      · exact h
      · rename_i hy
        split
        · exact h
        · rename_i hy10
          split
          · exact h
          · rename_i hfull
            have hv : pz_small v 65536 = true := by
              cases hz : pz_small v 65536 with
              | true => rfl
              | false => exact absurd hz hv
            have hy : pz_small y (pz_ct t f + 1) = true := by
              cases hz : pz_small y (pz_ct t f + 1) with
              | true => rfl
              | false => exact absurd hz hy
            have hy10 : pz_small y 10 = true := by
              cases hz : pz_small y 10 with
              | true => rfl
              | false => exact absurd hz hy10
            obtain ⟨x, hx16, rfl⟩ := pz_small_e (by omega) hv
            obtain ⟨j, hj, rfl⟩ := pz_small_e (by omega) hy
            obtain ⟨j', hj', hjj⟩ := pz_small_e (by omega) hy10
            have hjj : j = j' := (nI_eq (by omega) (by omega)).mp hjj
            rw [nI_clamp (by omega), nI_clamp (by omega)]
            have hmed : ∀ b, pz_med (k + 1) (pz_sec w k (pz_data k f x) b) := fun b => pz_med_sec h5 (fun i hi => by
              unfold pz_data
              split
              · omega
              · split
                · omega
                · split
                  · omega
                  · split <;> omega) (fun z => absurd z (by show ¬ (1 : Nat) = 3; omega))
            split
            · obtain ⟨b1, b2⟩ := pz_back_ok (hmed true)
              exact pz_inv_of h1 h2 (by omega) (by omega) (hmed true) b1 b2
            · refine pz_inv_of h1 h2 (by omega) (by omega) (hmed false) (pz_blk_ok h6 hf8 hk2 (by omega) (by omega)) (fun i hi h0 hc => ?_)
              have hif : i ≠ f := fun z => by
                have hc : pz_up (pz_ch t) f true i = false := hc
                rw [z, pz_up_s] at hc; cases hc
              have q2 : pz_ct (pz_blk t f j k) i = pz_ct t i := pz_up_n hif
              have q3 : pz_ch (pz_blk t f j k) i = pz_ch t i := pz_up_n hif
              have q5 : ∀ s, pz_it (pz_blk t f j k) i s = pz_it t i s := fun s => by
                show pz_up (pz_it t) f _ i s = _
                rw [pz_up_n hif]
              rw [q3] at hc
              rw [q2]
              obtain ⟨a1, a2, a3, a4, a5⟩ := pz_kept_sec (f := pz_data k f x) (b := false) h6 h7 i hi h0 hc
              exact ⟨a1, a2, a3, a4, fun s hs => by rw [q5 s]; exact a5 s hs⟩
theorem inv_remove {S : pz_S} (h : pz_inv S) (dir name : Int32) : pz_inv (pz_remove S dir name).2 := by
  obtain ⟨n, k, w, sp, t⟩ := S
  obtain ⟨h1, h2, h3, h4, h5, h6, h7⟩ := pz_inv_to h
  unfold pz_remove
  dsimp only
  split
  · exact h
  · rename_i d hx
    obtain ⟨hd8, hk1, -⟩ := pz_nd_lt hx
    have hk1 : pz_kd t d = 1 := beq_iff_eq.mp hk1
    split
    · exact h
    · rename_i j hix
      have hj := pz_ix_lt _ hix
      split
      · exact h
      · rename_i hb
        split
        · exact h
        · refine pz_inv_of h1 h2 h3 h4 h5 (pz_gone_ok h6 hd8 hk1 hj hb) (fun i hi h0 hc => ?_)
          generalize pz_it t d j % 16 = m at h0 hc ⊢
          have him : i ≠ m := fun z => by
            have h0 : pz_up (pz_kd t) m 0 i ≠ 0 := h0
            rw [z, pz_up_s] at h0
            exact h0 rfl
          have hid : i ≠ d := fun z => by
            have hc : pz_up (pz_up (pz_ch t) d true) m false i = false := hc
            rw [pz_up_n him, z, pz_up_s] at hc; cases hc
          have q1 : pz_kd (pz_gone (pz_take t d j) m) i = pz_kd t i := pz_up_n him
          have q2 : pz_ct (pz_gone (pz_take t d j) m) i = pz_ct t i := by
            show pz_up (pz_up (pz_ct t) d _) m 0 i = _
            rw [pz_up_n him, pz_up_n hid]
          have q3 : pz_ch (pz_gone (pz_take t d j) m) i = pz_ch t i := by
            show pz_up (pz_up (pz_ch t) d true) m false i = _
            rw [pz_up_n him, pz_up_n hid]
          have q4 : pz_en (pz_gone (pz_take t d j) m) i = pz_en t i := pz_up_n him
          have q5 : ∀ s, pz_it (pz_gone (pz_take t d j) m) i s = pz_it t i s := fun s => by
            show pz_up (pz_it t) d _ i s = _
            rw [pz_up_n hid]
          rw [q1] at h0
          rw [q3] at hc
          rw [q1, q2, q4]
          obtain ⟨a1, a2, a3, a4, a5⟩ := h7 i hi h0 hc
          exact ⟨a1, a2, a3, a4, fun s hs => by rw [q5 s]; exact a5 s hs⟩
theorem inv_move {S : pz_S} (h : pz_inv S) (dir name to as : Int32) : pz_inv (pz_move S dir name to as).2 := by
  obtain ⟨n, k, w, sp, t⟩ := S
  obtain ⟨h1, h2, h3, h4, h5, h6, h7⟩ := pz_inv_to h
  unfold pz_move
  dsimp only
  split
  · exact h
  · rename_i d hx
    obtain ⟨hd8, hk1, -⟩ := pz_nd_lt hx
    have hk1 : pz_kd t d = 1 := beq_iff_eq.mp hk1
    split
    · exact h
    · rename_i e hx2
      obtain ⟨he8, hk1', -⟩ := pz_nd_lt hx2
      have hk1' : pz_kd t e = 1 := beq_iff_eq.mp hk1'
      split
      · exact h
      · rename_i hnm
        split
        · exact h
        · rename_i j hix
          have hj := pz_ix_lt _ hix
          split
          · exact h
          · split
            · exact h
            · rename_i hbl
              split
              · exact h
              · have hnm : pz_small as 100 = true := by
                  cases hz : pz_small as 100 with
                  | true => rfl
                  | false => exact absurd hz hnm
                obtain ⟨x, hx100, rfl⟩ := pz_small_e (by omega) hnm
                rw [nI_clamp (by omega)]
                have hme : pz_it t d j % 16 ≠ e := fun z => hbl ((pz_below_iff 8).mpr ⟨0, by omega, by rw [z]; rfl⟩)
                refine pz_inv_of h1 h2 h3 h4 h5 (pz_add_ok h6 hd8 hk1 hj he8 hk1' hx100 hme) (fun i hi h0 hc => ?_)
                generalize pz_it t d j % 16 = m at h0 hc ⊢
                have hie : i ≠ e := fun z => by
                  have hc : pz_up (pz_up (pz_ch t) d true) e true i = false := hc
                  rw [z, pz_up_s] at hc; cases hc
                have hid : i ≠ d := fun z => by
                  have hc : pz_up (pz_up (pz_ch t) d true) e true i = false := hc
                  rw [pz_up_n hie, z, pz_up_s] at hc; cases hc
                have q2 : pz_ct (pz_add (pz_take t d j) e (16 * x + m)) i = pz_ct t i := by
                  show pz_up (pz_up (pz_ct t) d _) e _ i = _
                  rw [pz_up_n hie, pz_up_n hid]
                have q3 : pz_ch (pz_add (pz_take t d j) e (16 * x + m)) i = pz_ch t i := by
                  show pz_up (pz_up (pz_ch t) d true) e true i = _
                  rw [pz_up_n hie, pz_up_n hid]
                have q5 : ∀ s, pz_it (pz_add (pz_take t d j) e (16 * x + m)) i s = pz_it t i s := fun s => by
                  show pz_up (pz_up (pz_it t) d _) e _ i s = _
                  rw [pz_up_n hie, pz_up_n hid]
                rw [q3] at hc
                rw [q2]
                obtain ⟨a1, a2, a3, a4, a5⟩ := h7 i hi h0 hc
                exact ⟨a1, a2, a3, a4, fun s hs => by rw [q5 s]; exact a5 s hs⟩
