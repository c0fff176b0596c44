/- the invariant stays -/
theorem pz_wf_ext {k : Nat} {t t' : pz_T} (h : pz_wf k t) (e1 : ∀ i, i < 8 → pz_kd t' i = pz_kd t i) (e2 : ∀ i, i < 8 → pz_ct t' i = pz_ct t i) (e3 : ∀ i, i < 8 → ∀ j, j < pz_ct t i → pz_it t' i j = pz_it t i j) (e4 : ∀ i, i < 8 → pz_kd t i = 0 → pz_ch t' i = false ∧ pz_en t' i = 0) : pz_wf k t' := by
  obtain ⟨w1, w2, w3, w4, w5, w6, w7⟩ := h
  refine ⟨by rw [e1 0 (by omega)]; exact w1, fun n hn => by rw [e1 n hn]; exact w2 n hn, fun n hn h0 => ?_, fun n hn h2 => ?_, fun n hn h1 j hj => ?_, fun n j n' j' hn hn' k1 k1' hj hj' he => ?_, ?_⟩
  · rw [e1 n hn] at h0
    rw [e2 n hn]
    exact ⟨(w3 n hn h0).1, e4 n hn h0⟩
  · rw [e1 n hn] at h2
    rw [e2 n hn]
    exact ⟨(w4 n hn h2).1, fun j hj => by rw [e3 n hn j hj]; exact (w4 n hn h2).2 j hj⟩
  · rw [e1 n hn] at h1
    rw [e2 n hn] at hj
    rw [e3 n hn j hj]
    obtain ⟨b1, b2, b3, b4, b5⟩ := w5 n hn h1 j hj
    exact ⟨b1, b2, b3, b4, by rw [e1 _ b2]; exact b5⟩
  · rw [e1 n hn] at k1
    rw [e1 n' hn'] at k1'
    rw [e2 n hn] at hj
    rw [e2 n' hn'] at hj'
    rw [e3 n hn j hj, e3 n' hn' j' hj'] at he
    exact w6 n j n' j' hn hn' k1 k1' hj hj' he
  · show pz_sm (pz_gd t') 8 + 1 = pz_sm (pz_gc t') 8
    rw [pz_sm_ext (g := pz_gd t') (f := pz_gd t) 8 (fun n hn => by unfold pz_gd; rw [e1 n hn, e2 n hn]), pz_sm_ext (g := pz_gc t') (f := pz_gc t) 8 (fun n hn => by unfold pz_gc; rw [e1 n hn])]
    exact w7
/-- what the medium alone must hold -/
def pz_med (k : Nat) (w : Nat → Nat) : Prop := (∀ x, w x < 65536) ∧ (∀ x, 16 * k ≤ x → w x = 0) ∧ ∀ p, p < k → w (16 * p) = 3 → (∀ i, i < 8 → pz_nm w p i ≤ p) ∧ pz_wf k (pz_read w p) ∧ w (16 * p + 3) ≤ p + 1
theorem pz_inv_of {n k sp : Nat} {w : Nat → Nat} {t : pz_T} (h1 : 16 ≤ n) (h2 : n ≤ 128) (h3 : k ≤ n) (h4 : sp ≤ 1001) (h5 : pz_med k w) (h6 : pz_wf k t) (h7 : pz_kept k w t) : pz_inv (n, k, w, sp, t) := ⟨h1, h2, h3, h4, h5.1, h5.2.1, h6, h7, h5.2.2⟩
theorem pz_inv_to {n k sp : Nat} {w : Nat → Nat} {t : pz_T} (h : pz_inv (n, k, w, sp, t)) : 16 ≤ n ∧ n ≤ 128 ∧ k ≤ n ∧ sp ≤ 1001 ∧ pz_med k w ∧ pz_wf k t ∧ pz_kept k w t := by
  obtain ⟨h1, h2, h3, h4, h5, h6, h7, h8, h9⟩ := h
  exact ⟨h1, h2, h3, h4, ⟨h5, h6, h9⟩, h7, h8⟩
theorem pz_wf_empty (k : Nat) : pz_wf k pz_empty := by
  refine ⟨rfl, fun n hn => ?_, fun n hn h0 => ?_, fun n hn h2 => ?_, fun n hn h1 j hj => ?_, fun n j n' j' hn hn' k1 k1' hj hj' he => ?_, rfl⟩
  · show (if n = 0 then 1 else 0) ≤ 2
    split <;> omega
  · have h0 : (if n = 0 then 1 else 0) = 0 := h0
    have hn0 : n ≠ 0 := fun z => by rw [if_pos z] at h0; cases h0
    exact ⟨rfl, pz_beq_ne hn0, rfl⟩
  · exact ⟨by show (0 : Nat) ≤ 10; omega, fun j hj => absurd hj (by show ¬ j < 0; omega)⟩
  · exact absurd hj (by show ¬ j < 0; omega)
  · exact absurd hj (by show ¬ j < 0; omega)
theorem pz_kept_empty (k : Nat) (w : Nat → Nat) : pz_kept k w pz_empty := fun n hn h0 hc => by
  by_cases hn0 : n = 0
  · subst hn0; cases hc
  · exact absurd (if_neg hn0) h0
/-- the tree that is read back is sound -/
theorem pz_back_ok {k : Nat} {w : Nat → Nat} (h : pz_med k w) : pz_wf k (pz_back w k) ∧ pz_kept k w (pz_back w k) := by
  unfold pz_back
  cases hx : pz_newest w k with
  | none => exact ⟨pz_wf_empty k, pz_kept_empty k w⟩
  | some p =>
    obtain ⟨hp, hv⟩ := pz_newest_lt k hx
    obtain ⟨h1, h2, -⟩ := h.2.2 p hp (pz_valid_3 hv)
    refine ⟨h2, fun n hn h0 _ => ?_⟩
    have hk : pz_kd (pz_read w p) n = if pz_nm w p n = 0 then 0 else w (16 * (pz_nm w p n - 1) + 4) := rfl
    have hc : pz_ct (pz_read w p) n = if pz_nm w p n = 0 then 0 else w (16 * (pz_nm w p n - 1) + 5) := rfl
    have hz : ¬ pz_nm w p n = 0 := fun z => by
      have h0 : pz_kd (pz_read w p) n ≠ 0 := h0
      rw [hk, if_pos z] at h0
      exact h0 rfl
    have hle := h1 n hn
    show 1 ≤ pz_nm w p n ∧ pz_nm w p n ≤ k ∧ w (16 * (pz_nm w p n - 1) + 4) = pz_kd (pz_read w p) n ∧ w (16 * (pz_nm w p n - 1) + 5) = pz_ct (pz_read w p) n ∧ ∀ j, j < pz_ct (pz_read w p) n → w (16 * (pz_nm w p n - 1) + 6 + j) = pz_it (pz_read w p) n j
    exact ⟨by omega, by omega, by rw [hk, if_neg hz], by rw [hc, if_neg hz], fun j _ => rfl⟩
theorem inv_arm {S : pz_S} (h : pz_inv S) (x : Int32) : pz_inv (pz_arm S x).2 := by
  obtain ⟨n, k, w, sp, t⟩ := S
  obtain ⟨h1, h2, h3, h4, h5, h6, h7⟩ := pz_inv_to h
  unfold pz_arm
  show pz_inv (if pz_small x 1001 = false then (nI 0, (n, k, w, sp, t)) else (nI 1, (n, k, w, x.toNatClampNeg + 1, t)) : Int32 × pz_S).2
  cases hx : pz_small x 1001 with
  | false => rw [if_pos rfl]; exact h
  | true =>
    rw [if_neg (by decide)]
    obtain ⟨j, hj, rfl⟩ := pz_small_e (by omega) hx
    rw [nI_clamp (by omega)]
    exact pz_inv_of h1 h2 h3 (by omega) h5 h6 h7
theorem inv_crash {S : pz_S} (h : pz_inv S) : pz_inv (pz_crash S).2 := by
  obtain ⟨n, k, w, sp, t⟩ := S
  obtain ⟨h1, h2, h3, h4, h5, h6, h7⟩ := pz_inv_to h
  obtain ⟨b1, b2⟩ := pz_back_ok h5
  exact pz_inv_of h1 h2 h3 (Nat.zero_le _) h5 b1 b2
/-- only words 1 of sectors differ -/
theorem pz_read_flip {w v : Nat → Nat} {k p : Nat} (ho : ∀ x, x % 16 ≠ 1 → v x = w x) (h : pz_wf k (pz_read w p)) (hn : ∀ i, i < 8 → pz_nm w p i ≤ p) : pz_wf k (pz_read v p) ∧ ∀ i, i < 8 → pz_nm v p i = pz_nm w p i := by
  have hnm : ∀ i, i < 8 → pz_nm v p i = pz_nm w p i := fun i hi => by unfold pz_nm; exact ho _ (by omega)
  refine ⟨pz_wf_ext h (fun i hi => ?_) (fun i hi => ?_) (fun i hi j hj => ?_) (fun i hi h0 => ⟨rfl, ?_⟩), hnm⟩
  · show (if pz_nm v p i = 0 then 0 else v (16 * (pz_nm v p i - 1) + 4)) = (if pz_nm w p i = 0 then 0 else w (16 * (pz_nm w p i - 1) + 4))
    rw [hnm i hi, ho _ (by omega)]
  · show (if pz_nm v p i = 0 then 0 else v (16 * (pz_nm v p i - 1) + 5)) = (if pz_nm w p i = 0 then 0 else w (16 * (pz_nm w p i - 1) + 5))
    rw [hnm i hi, ho _ (by omega)]
  · have hc := h.ct10 hi
    show v (16 * (pz_nm v p i - 1) + 6 + j) = w (16 * (pz_nm w p i - 1) + 6 + j)
    rw [hnm i hi, ho _ (by omega)]
  · have := (h.2.2.1 i hi h0).2.2
    show pz_nm v p i = 0
    rw [hnm i hi]
    exact this
theorem inv_spoil {S : pz_S} (h : pz_inv S) (x : Int32) : pz_inv (pz_spoil S x).2 := by
  obtain ⟨n, k, w, sp, t⟩ := S
  obtain ⟨h1, h2, h3, h4, h5, h6, h7⟩ := pz_inv_to h
  show pz_inv (if pz_small x k = false then (nI 0, (n, k, w, sp, t)) else (nI 1, (n, k, pz_up w (16 * x.toNatClampNeg + 1) (w (16 * x.toNatClampNeg + 1) ^^^ 1), sp, t)) : Int32 × pz_S).2
  cases hx : pz_small x k with
  | false => rw [if_pos rfl]; exact h
  | true =>
    rw [if_neg (by decide)]
    obtain ⟨j, hj, rfl⟩ := pz_small_e (by omega) hx
    rw [nI_clamp (by omega)]
    have ho : ∀ y, y % 16 ≠ 1 → pz_up w (16 * j + 1) (w (16 * j + 1) ^^^ 1) y = w y := fun y hy => pz_up_n (by omega)
    refine pz_inv_of h1 h2 h3 h4 ⟨fun y => ?_, fun y hy => ?_, fun p hp h3p => ?_⟩ h6 (fun i hi h0 hc => ?_)
    · by_cases hy : y = 16 * j + 1
      · subst hy; rw [pz_up_s]; exact pz_xor_lt (j := 16) (h5.1 _) (by omega)
      · rw [pz_up_n hy]; exact h5.1 y
    · rw [pz_up_n (by omega)]; exact h5.2.1 y hy
    · rw [ho _ (by omega)] at h3p
      obtain ⟨a1, a2, a3⟩ := h5.2.2 p hp h3p
      obtain ⟨b1, b2⟩ := pz_read_flip ho a2 a1
      exact ⟨fun i hi => by rw [b2 i hi]; exact a1 i hi, b1, by rw [ho _ (by omega)]; exact a3⟩
    · have hc10 := h6.ct10 hi
      obtain ⟨a1, a2, a3, a4, a5⟩ := h7 i hi h0 hc
      exact ⟨a1, a2, by rw [ho _ (by omega)]; exact a3, by rw [ho _ (by omega)]; exact a4, fun s hs => by rw [ho _ (by omega)]; exact a5 s hs⟩
/-- a table of older sectors reads the same once a sector is added -/
theorem pz_read_old {w f : Nat → Nat} {k p : Nat} {b : Bool} (hp : p < k) (h : pz_wf k (pz_read w p)) (hn : ∀ i, i < 8 → pz_nm w p i ≤ p) : pz_wf (k + 1) (pz_read (pz_sec w k f b) p) := by
  have hnm : ∀ i, i < 8 → pz_nm (pz_sec w k f b) p i = pz_nm w p i := fun i hi => pz_nm_old hp hi
  refine pz_wf_ext (h.mono (Nat.le_succ k)) (fun i hi => ?_) (fun i hi => ?_) (fun i hi j hj => ?_) (fun i hi h0 => ⟨rfl, ?_⟩)
  · show (if pz_nm (pz_sec w k f b) p i = 0 then 0 else pz_sec w k f b (16 * (pz_nm (pz_sec w k f b) p i - 1) + 4)) = (if pz_nm w p i = 0 then 0 else w (16 * (pz_nm w p i - 1) + 4))
    have := hn i hi
    rw [hnm i hi, pz_sec_old (by omega)]
  · show (if pz_nm (pz_sec w k f b) p i = 0 then 0 else pz_sec w k f b (16 * (pz_nm (pz_sec w k f b) p i - 1) + 5)) = (if pz_nm w p i = 0 then 0 else w (16 * (pz_nm w p i - 1) + 5))
    have := hn i hi
    rw [hnm i hi, pz_sec_old (by omega)]
  · have hc := h.ct10 hi
    have := hn i hi
    show pz_sec w k f b (16 * (pz_nm (pz_sec w k f b) p i - 1) + 6 + j) = w (16 * (pz_nm w p i - 1) + 6 + j)
    rw [hnm i hi, pz_sec_old (by omega)]
  · have := (h.2.2.1 i hi h0).2.2
    show pz_nm (pz_sec w k f b) p i = 0
    rw [hnm i hi]
    exact this
theorem pz_med_sec {w f : Nat → Nat} {k : Nat} {b : Bool} (h : pz_med k w) (hf : ∀ i, i < 16 → f i < 65536) (hnew : f 0 = 3 → (∀ i, i < 8 → pz_nm (pz_sec w k f b) k i ≤ k) ∧ pz_wf (k + 1) (pz_read (pz_sec w k f b) k) ∧ f 3 ≤ k + 1) : pz_med (k + 1) (pz_sec w k f b) := by
  refine ⟨fun x => ?_, pz_sec_zero h.2.1, fun p hp h3 => ?_⟩
  · by_cases hx1 : x = 16 * k + 1
    · subst hx1
      rw [pz_sec_1]
      have hc := pz_chkN_lt f 16
      generalize pz_chkN f 16 = c at hc
      split
      · exact pz_xor_lt (j := 16) (by omega) (by omega)
      · exact hc
    · by_cases hx2 : x < 16 * k
      · rw [pz_sec_old hx2]; exact h.1 x
      · by_cases hx3 : 16 * k + 16 ≤ x
        · rw [pz_sec_far hx3]; exact h.1 x
        · obtain ⟨i, hi⟩ : ∃ i, x = 16 * k + i := ⟨x - 16 * k, by omega⟩
          subst hi
          rw [pz_sec_new (by omega) (by omega)]
          exact hf i (by omega)
  · by_cases hpk : p = k
    · subst hpk
      have e0 : pz_sec w p f b (16 * p + 0) = f 0 := pz_sec_new (by omega) (by omega)
      have e3 : pz_sec w p f b (16 * p + 3) = f 3 := pz_sec_new (by omega) (by omega)
      rw [Nat.add_zero] at e0
      rw [e0] at h3
      obtain ⟨a1, a2, a3⟩ := hnew h3
      exact ⟨a1, a2, by rw [e3]; exact a3⟩
    · rw [pz_sec_old (by omega)] at h3
      obtain ⟨a1, a2, a3⟩ := h.2.2 p (by omega) h3
      exact ⟨fun i hi => by rw [pz_nm_old (by omega) hi]; exact a1 i hi, pz_read_old (by omega) a2 a1, by rw [pz_sec_old (by omega)]; exact a3⟩
theorem pz_kept_sec {w f : Nat → Nat} {k : Nat} {b : Bool} {t : pz_T} (hw : pz_wf k t) (h : pz_kept k w t) : pz_kept (k + 1) (pz_sec w k f b) t := fun i hi h0 hc => by
  have hc10 := hw.ct10 hi
  obtain ⟨a1, a2, a3, a4, a5⟩ := h i hi h0 hc
  exact ⟨a1, by omega, by rw [pz_sec_old (by omega)]; exact a3, by rw [pz_sec_old (by omega)]; exact a4, fun s hs => by rw [pz_sec_old (by omega)]; exact a5 s hs⟩
