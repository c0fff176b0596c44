def pz_wf6 (k : Nat) (t : pz_T) : Prop :=
  pz_kd t 0 = 1 ∧ (∀ n, n < 8 → pz_kd t n ≤ 2) ∧ (∀ n, n < 8 → pz_kd t n = 0 → pz_ct t n = 0 ∧ pz_ch t n = false ∧ pz_en t n = 0)
  ∧ (∀ n, n < 8 → pz_kd t n = 2 → pz_ct t n ≤ 10 ∧ ∀ j, j < pz_ct t n → pz_it t n j < k)
  ∧ (∀ n, n < 8 → pz_kd t n = 1 → ∀ j, j < pz_ct t n → pz_it t n j / 16 < 100 ∧ pz_it t n j % 16 < 8 ∧ pz_it t n j % 16 ≠ 0 ∧ pz_it t n j % 16 ≠ n ∧ pz_kd t (pz_it t n j % 16) ≠ 0)
  ∧ (∀ n j n' j', n < 8 → n' < 8 → pz_kd t n = 1 → pz_kd t n' = 1 → j < pz_ct t n → j' < pz_ct t n' → pz_it t n j % 16 = pz_it t n' j' % 16 → n = n' ∧ j = j')
theorem pz_wf_6 {k : Nat} {t : pz_T} (h : pz_wf k t) : pz_wf6 k t := ⟨h.1, h.2.1, h.2.2.1, h.2.2.2.1, h.2.2.2.2.1, h.2.2.2.2.2.1⟩
theorem pz_wf_7 {k : Nat} {t : pz_T} (h : pz_wf6 k t) (h7 : pz_sm (pz_gd t) 8 + 1 = pz_sm (pz_gc t) 8) : pz_wf k t := ⟨h.1, h.2.1, h.2.2.1, h.2.2.2.1, h.2.2.2.2.1, h.2.2.2.2.2, h7⟩
/-- an item is taken out of a directory -/
theorem pz_take_ok {k d j : Nat} {t : pz_T} (h : pz_wf k t) (hd : d < 8) (h1 : pz_kd t d = 1) (hj : j < pz_ct t d) : pz_wf6 k (pz_take t d j) ∧ (∀ n s, n < 8 → pz_kd t n = 1 → s < pz_ct (pz_take t d j) n → pz_it (pz_take t d j) n s % 16 ≠ pz_it t d j % 16) ∧ pz_sm (pz_gd (pz_take t d j)) 8 + 1 = pz_sm (pz_gd t) 8 := by
  obtain ⟨w1, w2, w3, w4, w5, w6, w7⟩ := h
  have ct_d : pz_ct (pz_take t d j) d = pz_ct t d - 1 := pz_up_s
  have ct_o : ∀ n, n ≠ d → pz_ct (pz_take t d j) n = pz_ct t n := fun n hn => pz_up_n hn
  have it_d : ∀ s, pz_it (pz_take t d j) d s = if s < j then pz_it t d s else pz_it t d (s + 1) := fun s => by
    show pz_up (pz_it t) d (fun s => if s < j then pz_it t d s else pz_it t d (s + 1)) d s = _
    rw [pz_up_s]
  have it_o : ∀ n s, n ≠ d → pz_it (pz_take t d j) n s = pz_it t n s := fun n s hn => by
    show pz_up (pz_it t) d _ n s = _
    rw [pz_up_n hn]
  have old : ∀ n s, n < 8 → pz_kd t n = 1 → s < pz_ct (pz_take t d j) n → ∃ s', s' < pz_ct t n ∧ pz_it (pz_take t d j) n s = pz_it t n s' ∧ (n = d → s' = if s < j then s else s + 1) ∧ (n ≠ d → s' = s) := by
    intro n s hn hk hs
    by_cases hnd : n = d
    · subst hnd
      rw [ct_d] at hs
      refine ⟨if s < j then s else s + 1, by split <;> omega, ?_, fun _ => rfl, fun z => absurd rfl z⟩
      rw [it_d s]
      split <;> rfl
    · rw [ct_o n hnd] at hs
      exact ⟨s, hs, it_o n s hnd, fun z => absurd z hnd, fun _ => rfl⟩
  refine ⟨⟨w1, w2, fun n hn h0 => ?_, fun n hn h2 => ?_, fun n hn hk s hs => ?_, fun n s n' s' hn hn' k1 k1' hs hs' he => ?_⟩, fun n s hn hk hs he => ?_, ?_⟩
  · have hnd : n ≠ d := fun z => by
      have h0 : pz_kd t n = 0 := h0
      rw [z, h1] at h0
      cases h0
    rw [ct_o n hnd]
    refine ⟨(w3 n hn h0).1, ?_, (w3 n hn h0).2.2⟩
    show pz_up (pz_ch t) d true n = false
    rw [pz_up_n hnd]
    exact (w3 n hn h0).2.1
  · have hnd : n ≠ d := fun z => by
      have h2 : pz_kd t n = 2 := h2
      rw [z, h1] at h2
      cases h2
    rw [ct_o n hnd]
    exact ⟨(w4 n hn h2).1, fun s hs => by rw [it_o n s hnd]; exact (w4 n hn h2).2 s hs⟩
  · obtain ⟨s', g1, g2, -, -⟩ := old n s hn hk hs
    rw [g2]
    exact w5 n hn hk s' g1
  · obtain ⟨r, g1, g2, g3, g4⟩ := old n s hn k1 hs
    obtain ⟨r', g1', g2', g3', g4'⟩ := old n' s' hn' k1' hs'
    rw [g2, g2'] at he
    obtain ⟨e1, e2⟩ := w6 n r n' r' hn hn' k1 k1' g1 g1' he
    refine ⟨e1, ?_⟩
    by_cases hnd : n = d
    · have a := g3 hnd
      have b := g3' (by rw [← e1]; exact hnd)
      split at a <;> split at b <;> omega
    · have a := g4 hnd
      have b := g4' (by rw [← e1]; exact hnd)
      omega
  · obtain ⟨r, g1, g2, g3, g4⟩ := old n s hn hk hs
    rw [g2] at he
    obtain ⟨e1, e2⟩ := w6 n r d j hn hd hk h1 g1 hj he
    have a := g3 e1
    split at a <;> omega
  · have s1 := pz_sm_one (g := pz_gd t) (f := pz_gd (pz_take t d j)) (x := d) 8 hd (fun n hn hnd => by
      unfold pz_gd
      rw [ct_o n hnd]
      rfl)
    rw [pz_gd_1 h1, pz_gd_1 (t := pz_take t d j) h1, ct_d] at s1
    omega
theorem pz_gone_ok {k d j : Nat} {t : pz_T} (h : pz_wf k t) (hd : d < 8) (h1 : pz_kd t d = 1) (hj : j < pz_ct t d) (hb : ¬ (pz_kd t (pz_it t d j % 16) = 1 ∧ 0 < pz_ct t (pz_it t d j % 16))) : pz_wf k (pz_gone (pz_take t d j) (pz_it t d j % 16)) := by
  obtain ⟨⟨v1, v2, v3, v4, v5, v6⟩, hno, hsum⟩ := pz_take_ok h hd h1 hj
  obtain ⟨-, hm8, hm0, hmd, hmk⟩ := h.2.2.2.2.1 d hd h1 j hj
  have w7 : pz_sm (pz_gd t) 8 + 1 = pz_sm (pz_gc t) 8 := h.2.2.2.2.2.2
  generalize hmm : pz_it t d j % 16 = m at hb hno hm8 hm0 hmd hmk ⊢
  have kd_m : pz_kd (pz_gone (pz_take t d j) m) m = 0 := pz_up_s
  have kd_o : ∀ n, n ≠ m → pz_kd (pz_gone (pz_take t d j) m) n = pz_kd t n := fun n hn => pz_up_n hn
  have ct_m : pz_ct (pz_gone (pz_take t d j) m) m = 0 := pz_up_s
  have ct_o : ∀ n, n ≠ m → pz_ct (pz_gone (pz_take t d j) m) n = pz_ct (pz_take t d j) n := fun n hn => pz_up_n hn
  refine pz_wf_7 ⟨by rw [kd_o 0 (Ne.symm hm0)]; exact v1, fun n hn => ?_, fun n hn h0 => ?_, fun n hn h2 => ?_, fun n hn hk s hs => ?_, fun n s n' s' hn hn' k1 k1' hs hs' he => ?_⟩ ?_
  · by_cases hnm : n = m
    · rw [hnm, kd_m]; omega
    · rw [kd_o n hnm]; exact v2 n hn
  · by_cases hnm : n = m
    · subst hnm
      exact ⟨ct_m, pz_up_s, pz_up_s⟩
    · rw [kd_o n hnm] at h0
      rw [ct_o n hnm]
      refine ⟨(v3 n hn h0).1, ?_, ?_⟩
      · show pz_up (pz_ch (pz_take t d j)) m false n = false
        rw [pz_up_n hnm]; exact (v3 n hn h0).2.1
      · show pz_up (pz_en (pz_take t d j)) m 0 n = 0
        rw [pz_up_n hnm]; exact (v3 n hn h0).2.2
  · have hnm : n ≠ m := fun z => by rw [z, kd_m] at h2; cases h2
    rw [kd_o n hnm] at h2
    rw [ct_o n hnm]
    exact v4 n hn h2
  · have hnm : n ≠ m := fun z => by rw [z, kd_m] at hk; cases hk
    rw [kd_o n hnm] at hk
    rw [ct_o n hnm] at hs
    obtain ⟨b1, b2, b3, b4, b5⟩ := v5 n hn hk s hs
    exact ⟨b1, b2, b3, b4, by show pz_kd (pz_gone (pz_take t d j) m) (pz_it (pz_take t d j) n s % 16) ≠ 0; rw [kd_o _ (hno n s hn hk hs)]; exact b5⟩
  · have hnm : n ≠ m := fun z => by rw [z, kd_m] at k1; cases k1
    have hnm' : n' ≠ m := fun z => by rw [z, kd_m] at k1'; cases k1'
    rw [kd_o n hnm] at k1
    rw [kd_o n' hnm'] at k1'
    rw [ct_o n hnm] at hs
    rw [ct_o n' hnm'] at hs'
    exact v6 n s n' s' hn hn' k1 k1' hs hs' he
  · have s1 : pz_sm (pz_gd (pz_gone (pz_take t d j) m)) 8 = pz_sm (pz_gd (pz_take t d j)) 8 := pz_sm_ext 8 (fun n hn => by
      by_cases hnm : n = m
      · subst hnm
        rw [pz_gd_n (by rw [kd_m]; omega)]
        unfold pz_gd
        by_cases hk : pz_kd t n = 1
        · have e : pz_ct (pz_take t d j) n = pz_ct t n := pz_up_n hmd
          rw [if_pos (show pz_kd (pz_take t d j) n = 1 from hk), e]
          omega
        · exact (if_neg hk).symm
      · unfold pz_gd
        rw [kd_o n hnm, ct_o n hnm]
        rfl)
    have s2 := pz_sm_one (g := pz_gc t) (f := pz_gc (pz_gone (pz_take t d j) m)) (x := m) 8 hm8 (fun n hn hnm => by
      unfold pz_gc
      rw [kd_o n hnm])
    rw [pz_gc_1 hmk, pz_gc_0 kd_m] at s2
    rw [s1]
    omega
theorem pz_add_ok {k d j e x : Nat} {t : pz_T} (h : pz_wf k t) (hd : d < 8) (h1 : pz_kd t d = 1) (hj : j < pz_ct t d) (he : e < 8) (h1' : pz_kd t e = 1) (hx : x < 100) (hme : pz_it t d j % 16 ≠ e) : pz_wf k (pz_add (pz_take t d j) e (16 * x + pz_it t d j % 16)) := by
  obtain ⟨⟨v1, v2, v3, v4, v5, v6⟩, hno, hsum⟩ := pz_take_ok h hd h1 hj
  obtain ⟨-, hm8, hm0, hmd, hmk⟩ := h.2.2.2.2.1 d hd h1 j hj
  have w7 : pz_sm (pz_gd t) 8 + 1 = pz_sm (pz_gc t) 8 := h.2.2.2.2.2.2
  generalize hmm : pz_it t d j % 16 = m at hno hm8 hm0 hmd hmk hme ⊢
  generalize hT : pz_take t d j = T at v1 v2 v3 v4 v5 v6 hno hsum ⊢
  have kdT : ∀ n, pz_kd T n = pz_kd t n := fun n => by rw [← hT]; rfl
  have hv : (16 * x + m) % 16 = m := by omega
  have hv2 : (16 * x + m) / 16 = x := by omega
  have ct_e : pz_ct (pz_add T e (16 * x + m)) e = pz_ct T e + 1 := pz_up_s
  have ct_o : ∀ n, n ≠ e → pz_ct (pz_add T e (16 * x + m)) n = pz_ct T n := fun n hn => pz_up_n hn
  have it_o : ∀ n s, n ≠ e → pz_it (pz_add T e (16 * x + m)) n s = pz_it T n s := fun n s hn => by
    show pz_up (pz_it T) e _ n s = _
    rw [pz_up_n hn]
  have it_e : ∀ s, pz_it (pz_add T e (16 * x + m)) e s = pz_up (pz_it T e) (pz_ct T e) (16 * x + m) s := fun s => by
    show pz_up (pz_it T) e (pz_up (pz_it T e) (pz_ct T e) (16 * x + m)) e s = _
    rw [pz_up_s]
  have case : ∀ n s, n < 8 → pz_kd T n = 1 → s < pz_ct (pz_add T e (16 * x + m)) n → (n = e ∧ s = pz_ct T e ∧ pz_it (pz_add T e (16 * x + m)) n s = 16 * x + m) ∨ (s < pz_ct T n ∧ pz_it (pz_add T e (16 * x + m)) n s = pz_it T n s) := by
    intro n s hn hk hs
    by_cases hne : n = e
    · subst hne
      rw [ct_e] at hs
      by_cases hsc : s = pz_ct T n
      · subst hsc
        exact Or.inl ⟨rfl, rfl, by rw [it_e, pz_up_s]⟩
      · exact Or.inr ⟨by omega, by rw [it_e, pz_up_n hsc]⟩
    · rw [ct_o n hne] at hs
      exact Or.inr ⟨hs, it_o n s hne⟩
  refine pz_wf_7 ⟨v1, v2, fun n hn h0 => ?_, fun n hn h2 => ?_, fun n hn hk s hs => ?_, fun n s n' s' hn hn' k1 k1' hs hs' hE => ?_⟩ ?_
  · have hne : n ≠ e := fun z => by
      have h0 : pz_kd T n = 0 := h0
      rw [kdT, z, h1'] at h0
      cases h0
    rw [ct_o n hne]
    refine ⟨(v3 n hn h0).1, ?_, (v3 n hn h0).2.2⟩
    show pz_up (pz_ch T) e true n = false
    rw [pz_up_n hne]; exact (v3 n hn h0).2.1
  · have hne : n ≠ e := fun z => by
      have h2 : pz_kd T n = 2 := h2
      rw [kdT, z, h1'] at h2
      cases h2
    rw [ct_o n hne]
    exact ⟨(v4 n hn h2).1, fun s hs => by rw [it_o n s hne]; exact (v4 n hn h2).2 s hs⟩
  · rcases case n s hn hk hs with ⟨g0, -, g2⟩ | ⟨g1, g2⟩
    · rw [g2, hv, hv2, g0]
      exact ⟨hx, hm8, hm0, hme, by show pz_kd T m ≠ 0; rw [kdT]; exact hmk⟩
    · rw [g2]
      exact v5 n hn hk s g1
  · rcases case n s hn k1 hs with ⟨a0, a1, a2⟩ | ⟨a1, a2⟩ <;> rcases case n' s' hn' k1' hs' with ⟨b0, b1, b2⟩ | ⟨b1, b2⟩
    · exact ⟨by rw [a0, b0], by rw [a1, b1]⟩
    · rw [a2, b2, hv] at hE
      have k1' : pz_kd T n' = 1 := k1'
      rw [kdT] at k1'
      exact absurd hE.symm (hno n' s' hn' k1' b1)
    · rw [a2, b2, hv] at hE
      have k1 : pz_kd T n = 1 := k1
      rw [kdT] at k1
      exact absurd hE (hno n s hn k1 a1)
    · rw [a2, b2] at hE
      exact v6 n s n' s' hn hn' k1 k1' a1 b1 hE
  · have s1 := pz_sm_one (g := pz_gd T) (f := pz_gd (pz_add T e (16 * x + m))) (x := e) 8 he (fun n hn hne => by
      unfold pz_gd
      rw [ct_o n hne]
      rfl)
    have hkT : pz_kd T e = 1 := by rw [kdT]; exact h1'
    rw [pz_gd_1 hkT, pz_gd_1 (t := pz_add T e (16 * x + m)) hkT, ct_e] at s1
    have s2 : pz_sm (pz_gc (pz_add T e (16 * x + m))) 8 = pz_sm (pz_gc t) 8 := pz_sm_ext 8 (fun n hn => by
      show (if pz_kd T n = 0 then 0 else 1) = (if pz_kd t n = 0 then 0 else 1)
      rw [kdT])
    rw [s2]
    omega
theorem pz_blk_ok {k f j : Nat} {t : pz_T} (h : pz_wf k t) (hf : f < 8) (h2 : pz_kd t f = 2) (hj : j < 10) (hjc : j ≤ pz_ct t f) : pz_wf (k + 1) (pz_blk t f j k) := by
  obtain ⟨w1, w2, w3, w4, w5, w6, w7⟩ := h
  have ct_f : pz_ct (pz_blk t f j k) f = (if j = pz_ct t f then j + 1 else pz_ct t f) := pz_up_s
  have ct_o : ∀ n, n ≠ f → pz_ct (pz_blk t f j k) n = pz_ct t n := fun n hn => pz_up_n hn
  have it_f : ∀ s, pz_it (pz_blk t f j k) f s = pz_up (pz_it t f) j k s := fun s => by
    show pz_up (pz_it t) f (pz_up (pz_it t f) j k) f s = _
    rw [pz_up_s]
  have it_o : ∀ n s, n ≠ f → pz_it (pz_blk t f j k) n s = pz_it t n s := fun n s hn => by
    show pz_up (pz_it t) f _ n s = _
    rw [pz_up_n hn]
  have hd : ∀ n, pz_kd t n = 1 → n ≠ f := fun n hk z => by rw [z, h2] at hk; cases hk
  refine pz_wf_7 ⟨w1, w2, fun n hn h0 => ?_, fun n hn hk2 => ?_, fun n hn hk s hs => ?_, fun n s n' s' hn hn' k1 k1' hs hs' hE => ?_⟩ ?_
  · have hne : n ≠ f := fun z => by
      have h0 : pz_kd t n = 0 := h0
      rw [z, h2] at h0
      cases h0
    rw [ct_o n hne]
    refine ⟨(w3 n hn h0).1, ?_, (w3 n hn h0).2.2⟩
    show pz_up (pz_ch t) f true n = false
    rw [pz_up_n hne]; exact (w3 n hn h0).2.1
  · by_cases hnf : n = f
    · subst hnf
      obtain ⟨a1, a2⟩ := w4 n hn hk2
      rw [ct_f]
      refine ⟨by split <;> omega, fun s hs => ?_⟩
      rw [it_f]
      by_cases hsj : s = j
      · rw [hsj, pz_up_s]; omega
      · rw [pz_up_n hsj]
        have := a2 s (by split at hs <;> omega)
        omega
    · rw [ct_o n hnf]
      exact ⟨(w4 n hn hk2).1, fun s hs => by rw [it_o n s hnf]; have := (w4 n hn hk2).2 s hs; omega⟩
  · have hne := hd n hk
    rw [ct_o n hne] at hs
    rw [it_o n s hne]
    exact w5 n hn hk s hs
  · have hne := hd n k1
    have hne' := hd n' k1'
    rw [ct_o n hne] at hs
    rw [ct_o n' hne'] at hs'
    rw [it_o n s hne, it_o n' s' hne'] at hE
    exact w6 n s n' s' hn hn' k1 k1' hs hs' hE
  · have s1 : pz_sm (pz_gd (pz_blk t f j k)) 8 = pz_sm (pz_gd t) 8 := pz_sm_ext 8 (fun n hn => by
      unfold pz_gd
      by_cases hnf : n = f
      · rw [hnf]
        have e : pz_kd (pz_blk t f j k) f = 2 := h2
        rw [e, h2]
        rfl
      · rw [ct_o n hnf]
        rfl)
    have s2 : pz_sm (pz_gc (pz_blk t f j k)) 8 = pz_sm (pz_gc t) 8 := pz_sm_ext 8 (fun n hn => rfl)
    rw [s1, s2]
    exact w7
