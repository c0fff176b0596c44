/- trees stay well formed -/
theorem pz_sm_ext {g f : Nat → Nat} : ∀ N, (∀ n, n < N → g n = f n) → pz_sm g N = pz_sm f N
  | 0, _ => rfl
  | N + 1, h => by
    show pz_sm g N + g N = pz_sm f N + f N
    rw [pz_sm_ext N (fun n hn => h n (by omega)), h N (by omega)]
theorem pz_sm_one {g f : Nat → Nat} {x : Nat} : ∀ N, x < N → (∀ n, n < N → n ≠ x → f n = g n) → pz_sm f N + g x = pz_sm g N + f x
  | 0, h, _ => by omega
  | N + 1, h, ho => by
    show pz_sm f N + f N + g x = pz_sm g N + g N + f x
    by_cases hN : x = N
    · subst hN
      rw [pz_sm_ext (g := f) (f := g) x (fun n hn => ho n (by omega) (by omega))]
      omega
    · have h1 := pz_sm_one (g := g) (f := f) N (by omega) (fun n hn h1 => ho n (by omega) h1)
      rw [ho N (by omega) (fun e => hN e.symm)]
      omega
theorem pz_sm_ge {g : Nat → Nat} {x : Nat} : ∀ N, x < N → g x ≤ pz_sm g N
  | 0, h => by omega
  | N + 1, h => by
    show g x ≤ pz_sm g N + g N
    by_cases hN : x = N
    · subst hN; omega
    · have := pz_sm_ge (g := g) N (show x < N by omega)
      omega
theorem pz_sm_ge2 {g : Nat → Nat} {x y : Nat} (hxy : x ≠ y) : ∀ N, x < N → y < N → g x + g y ≤ pz_sm g N
  | 0, h, _ => by omega
  | N + 1, h, h' => by
    show g x + g y ≤ pz_sm g N + g N
    by_cases hx : x = N
    · subst hx
      have := pz_sm_ge (g := g) x (show y < x by omega)
      omega
    · by_cases hy : y = N
      · subst hy
        have := pz_sm_ge (g := g) y (show x < y by omega)
        omega
      · have := pz_sm_ge2 (g := g) hxy N (by omega) (by omega)
        omega
theorem pz_sm_le1 {g : Nat → Nat} : ∀ N, (∀ n, n < N → g n ≤ 1) → pz_sm g N ≤ N
  | 0, _ => Nat.le_refl 0
  | N + 1, h => by
    have h1 := pz_sm_le1 (g := g) N (fun n hn => h n (by omega))
    have h2 := h N (by omega)
    show pz_sm g N + g N ≤ N + 1
    omega
theorem pz_cnt_le (t : pz_T) : pz_cnt t 8 ≤ 8 := pz_sm_le1 8 (fun n _ => by unfold pz_gc; split <;> omega)
theorem pz_up_s {α : Type} {f : Nat → α} {i : Nat} {v : α} : pz_up f i v i = v := if_pos rfl
theorem pz_up_n {α : Type} {f : Nat → α} {i j : Nat} {v : α} (h : j ≠ i) : pz_up f i v j = f j := if_neg h
theorem pz_gd_1 {t : pz_T} {n : Nat} (h : pz_kd t n = 1) : pz_gd t n = pz_ct t n := if_pos h
theorem pz_gd_n {t : pz_T} {n : Nat} (h : pz_kd t n ≠ 1) : pz_gd t n = 0 := if_neg h
theorem pz_gc_0 {t : pz_T} {n : Nat} (h : pz_kd t n = 0) : pz_gc t n = 0 := if_pos h
theorem pz_gc_1 {t : pz_T} {n : Nat} (h : pz_kd t n ≠ 0) : pz_gc t n = 1 := if_neg h
theorem pz_wf.ct {k : Nat} {t : pz_T} (h : pz_wf k t) {d : Nat} (hd : d < 8) (h1 : pz_kd t d = 1) : pz_ct t d ≤ 7 := by
  have h2 := pz_sm_ge (g := pz_gd t) 8 hd
  have h3 : pz_sm (pz_gd t) 8 + 1 = pz_sm (pz_gc t) 8 := h.2.2.2.2.2.2
  have h4 : pz_sm (pz_gc t) 8 ≤ 8 := pz_cnt_le t
  rw [pz_gd_1 h1] at h2
  omega
theorem pz_wf.mono {k k' : Nat} {t : pz_T} (h : pz_wf k t) (hk : k ≤ k') : pz_wf k' t :=
  ⟨h.1, h.2.1, h.2.2.1, fun n hn h2 => ⟨(h.2.2.2.1 n hn h2).1, fun j hj => Nat.lt_of_lt_of_le ((h.2.2.2.1 n hn h2).2 j hj) hk⟩, h.2.2.2.2⟩
theorem pz_least_some {kd : Nat → Nat} {m : Nat} : ∀ N, pz_least kd N = some m → m < N ∧ kd m = 0
  | 0, h => by cases h
  | N + 1, h => by
    unfold pz_least at h
    cases hq : pz_least kd N with
    | some q =>
      rw [hq] at h
      cases h
      obtain ⟨h1, h2⟩ := pz_least_some N hq
      exact ⟨by omega, h2⟩
    | none =>
      rw [hq] at h
      have h : (if kd N = 0 then some N else none) = some m := h
      by_cases hv : kd N = 0
      · rw [if_pos hv] at h
        cases h
        exact ⟨by omega, hv⟩
      · rw [if_neg hv] at h
        cases h
/-- make -/
theorem pz_wf_make {k d m kind nm : Nat} {t : pz_T} (h : pz_wf k t) (hd : d < 8) (h1 : pz_kd t d = 1) (hm : m < 8) (h0 : pz_kd t m = 0) (hk : kind = 1 ∨ kind = 2) (hnm100 : nm < 100) : pz_wf k (pz_add (pz_new t m kind) d (16 * nm + m)) := by
  obtain ⟨w1, w2, w3, w4, w5, w6, w7⟩ := h
  have hdm : d ≠ m := fun e => by rw [e, h0] at h1; cases h1
  have hm0 : m ≠ 0 := fun e => by rw [e, w1] at h0; cases h0
  have hv : (16 * nm + m) % 16 = m := by omega
  have hv2 : (16 * nm + m) / 16 = nm := by omega
  have kd_m : pz_kd (pz_add (pz_new t m kind) d (16 * nm + m)) m = kind := pz_up_s
  have kd_o : ∀ n, n ≠ m → pz_kd (pz_add (pz_new t m kind) d (16 * nm + m)) n = pz_kd t n := fun n hn => pz_up_n hn
  have ct_d : pz_ct (pz_add (pz_new t m kind) d (16 * nm + m)) d = pz_ct t d + 1 := by
    show pz_up (pz_up (pz_ct t) m 0) d (pz_up (pz_ct t) m 0 d + 1) d = _
    rw [pz_up_s, pz_up_n hdm]
  have ct_m : pz_ct (pz_add (pz_new t m kind) d (16 * nm + m)) m = 0 := by
    show pz_up (pz_up (pz_ct t) m 0) d _ m = _
    rw [pz_up_n (Ne.symm hdm), pz_up_s]
  have ct_o : ∀ n, n ≠ m → n ≠ d → pz_ct (pz_add (pz_new t m kind) d (16 * nm + m)) n = pz_ct t n := fun n hn hn2 => by
    show pz_up (pz_up (pz_ct t) m 0) d _ n = _
    rw [pz_up_n hn2, pz_up_n hn]
  have it_o : ∀ n j, n ≠ d → pz_it (pz_add (pz_new t m kind) d (16 * nm + m)) n j = pz_it t n j := fun n j hn => by
    show pz_up (pz_it t) d _ n j = _
    rw [pz_up_n hn]
  have it_d : ∀ j, j ≠ pz_ct t d → pz_it (pz_add (pz_new t m kind) d (16 * nm + m)) d j = pz_it t d j := fun j hj => by
    show pz_up (pz_it t) d (pz_up (pz_it t d) (pz_up (pz_ct t) m 0 d) _) d j = _
    rw [pz_up_s, pz_up_n hdm, pz_up_n hj]
  have it_v : pz_it (pz_add (pz_new t m kind) d (16 * nm + m)) d (pz_ct t d) = 16 * nm + m := by
    show pz_up (pz_it t) d (pz_up (pz_it t d) (pz_up (pz_ct t) m 0 d) _) d (pz_ct t d) = _
    rw [pz_up_s, pz_up_n hdm, pz_up_s]
  have old : ∀ n j, n < 8 → pz_kd t n = 1 → j < pz_ct t n → pz_it t n j % 16 ≠ m := fun n j hn h1 hj e => by
    have := (w5 n hn h1 j hj).2.2.2.2
    rw [e] at this
    exact this h0
  have case : ∀ n j, n < 8 → pz_kd (pz_add (pz_new t m kind) d (16 * nm + m)) n = 1 → j < pz_ct (pz_add (pz_new t m kind) d (16 * nm + m)) n → (n = d ∧ j = pz_ct t d ∧ pz_it (pz_add (pz_new t m kind) d (16 * nm + m)) n j = 16 * nm + m) ∨ (pz_kd t n = 1 ∧ j < pz_ct t n ∧ pz_it (pz_add (pz_new t m kind) d (16 * nm + m)) n j = pz_it t n j) := by
    intro n j hn hk1 hj
    by_cases hnm : n = m
    · subst hnm; rw [ct_m] at hj; omega
    · rw [kd_o n hnm] at hk1
      by_cases hnd : n = d
      · subst hnd
        rw [ct_d] at hj
        by_cases hjc : j = pz_ct t n
        · subst hjc; exact Or.inl ⟨rfl, rfl, it_v⟩
        · exact Or.inr ⟨hk1, by omega, it_d j hjc⟩
      · rw [ct_o n hnm hnd] at hj
        exact Or.inr ⟨hk1, hj, it_o n j hnd⟩
  refine ⟨by rw [kd_o 0 (Ne.symm hm0)]; exact w1, fun n hn => ?_, fun n hn hn0 => ?_, fun n hn hn2 => ?_, fun n hn hn1 j hj => ?_, fun n j n' j' hn hn' k1 k1' hj hj' he => ?_, ?_⟩
  · by_cases hnm : n = m
    · subst hnm; rw [kd_m]; omega
    · rw [kd_o n hnm]; exact w2 n hn
  · by_cases hnm : n = m
    · subst hnm; rw [kd_m] at hn0; omega
    · rw [kd_o n hnm] at hn0
      have hnd : n ≠ d := fun e => by rw [e, h1] at hn0; cases hn0
      obtain ⟨a1, a2, a3⟩ := w3 n hn hn0
      refine ⟨by rw [ct_o n hnm hnd]; exact a1, ?_, ?_⟩
      · show pz_up (pz_up (pz_ch t) m true) d true n = false
        rw [pz_up_n hnd, pz_up_n hnm]; exact a2
      · show pz_up (pz_en t) m 0 n = 0
        rw [pz_up_n hnm]; exact a3
  · by_cases hnm : n = m
    · subst hnm; rw [ct_m]; exact ⟨by omega, fun j hj => by omega⟩
    · rw [kd_o n hnm] at hn2
      have hnd : n ≠ d := fun e => by rw [e, h1] at hn2; cases hn2
      obtain ⟨a1, a2⟩ := w4 n hn hn2
      rw [ct_o n hnm hnd]
      exact ⟨a1, fun j hj => by rw [it_o n j hnd]; exact a2 j hj⟩
  · rcases case n j hn hn1 hj with ⟨rfl, -, e⟩ | ⟨k1, hj1, e⟩
    · rw [e, hv, hv2]
      exact ⟨hnm100, hm, hm0, Ne.symm hdm, by rw [kd_m]; omega⟩
    · rw [e]
      obtain ⟨a1, a2, a3, a4, a5⟩ := w5 n hn k1 j hj1
      exact ⟨a1, a2, a3, a4, by rw [kd_o _ (old n j hn k1 hj1)]; exact a5⟩
  · rcases case n j hn k1 hj with ⟨e1, e2, e⟩ | ⟨q1, hj1, e⟩ <;> rcases case n' j' hn' k1' hj' with ⟨e1', e2', e'⟩ | ⟨q1', hj1', e'⟩
    · exact ⟨by rw [e1, e1'], by rw [e2, e2']⟩
    · rw [e, e', hv] at he
      exact absurd he.symm (old n' j' hn' q1' hj1')
    · rw [e, e', hv] at he
      exact absurd he (old n j hn q1 hj1)
    · rw [e, e'] at he
      exact w6 n j n' j' hn hn' q1 q1' hj1 hj1' he
  · have s1 := pz_sm_one (g := pz_gd t) (f := pz_gd (pz_add (pz_new t m kind) d (16 * nm + m))) (x := d) 8 hd (fun n hn hnd => by
      by_cases hnm : n = m
      · subst hnm
        unfold pz_gd
        rw [ct_m, h0]; simp
      · unfold pz_gd
        rw [ct_o n hnm hnd, kd_o n hnm])
    have s2 := pz_sm_one (g := pz_gc t) (f := pz_gc (pz_add (pz_new t m kind) d (16 * nm + m))) (x := m) 8 hm (fun n hn hnm => by
      unfold pz_gc
      rw [kd_o n hnm])
    rw [pz_gd_1 h1, pz_gd_1 (by rw [kd_o d hdm]; exact h1), ct_d] at s1
    rw [pz_gc_0 h0, pz_gc_1 (by rw [kd_m]; omega)] at s2
    have w7 : pz_sm (pz_gd t) 8 + 1 = pz_sm (pz_gc t) 8 := w7
    show pz_sm (pz_gd _) 8 + 1 = pz_sm (pz_gc _) 8
    omega
