/- the two ways to find who is below whom agree -/
theorem pz_php : ∀ (n : Nat) (f : Nat → Nat), (∀ i, i ≤ n → f i < n) → ∃ a b, a < b ∧ b ≤ n ∧ f a = f b
  | 0, f, h => absurd (h 0 (Nat.le_refl 0)) (by omega)
  | n + 1, f, h => by
    by_cases hx : ∃ a, a ≤ n ∧ f a = f (n + 1)
    · obtain ⟨a, h1, h2⟩ := hx
      exact ⟨a, n + 1, by omega, by omega, h2⟩
    · have hx : ∀ a, a ≤ n → f a ≠ f (n + 1) := fun a h1 h2 => hx ⟨a, h1, h2⟩
      obtain ⟨a, b, h1, h2, h3⟩ := pz_php n (fun i => if f i = n then f (n + 1) else f i) (fun i hi => by
        show (if f i = n then f (n + 1) else f i) < n
        by_cases hn : f i = n
        · rw [if_pos hn]
          have := h (n + 1) (by omega)
          have := hx i hi
          omega
        · rw [if_neg hn]
          have := h i (by omega)
          omega)
      refine ⟨a, b, h1, by omega, ?_⟩
      have h3 : (if f a = n then f (n + 1) else f a) = (if f b = n then f (n + 1) else f b) := h3
      by_cases ha : f a = n
      · by_cases hb : f b = n
        · rw [ha, hb]
        · rw [if_pos ha, if_neg hb] at h3
          exact absurd h3.symm (hx b h2)
      · by_cases hb : f b = n
        · rw [if_neg ha, if_pos hb] at h3
          exact absurd h3 (hx a (by omega))
        · rw [if_neg ha, if_neg hb] at h3
          exact h3
theorem pz_hd_iff {f : Nat → Nat} {c : Nat} : ∀ n, pz_hd f c n = true → ∃ s, s < n ∧ f s % 16 = c
  | 0, h => by cases h
  | n + 1, h => by
    have h : (pz_hd f c n || (f n % 16 == c)) = true := h
    rw [Bool.or_eq_true] at h
    rcases h with h | h
    · obtain ⟨s, h1, h2⟩ := pz_hd_iff n h
      exact ⟨s, by omega, h2⟩
    · exact ⟨n, by omega, beq_iff_eq.mp h⟩
theorem pz_hd_of {f : Nat → Nat} {c s : Nat} (hs : f s % 16 = c) {n : Nat} (h : s < n) : pz_hd f c n = true := by
  refine pz_hd_mono (j := s + 1) ?_ (by omega)
  show (pz_hd f c s || (f s % 16 == c)) = true
  rw [hs, beq_self_eq_true, Bool.or_true]
theorem pz_par_of {t : pz_T} {c i : Nat} : ∀ n, pz_par t c n = some i → pz_kd t i = 1 ∧ ∃ s, s < pz_ct t i ∧ pz_it t i s % 16 = c
  | 0, h => by cases h
  | n + 1, h => by
    cases hq : pz_par t c n with
    | some q =>
      have h2 := pz_par_m hq 1
      rw [h2] at h
      cases h
      exact pz_par_of n hq
    | none =>
      rw [pz_par_s hq] at h
      by_cases hv : pz_kd t n = 1 ∧ pz_hold t n c (pz_ct t n) = true
      · rw [if_pos hv] at h
        cases h
        exact ⟨hv.1, pz_hd_iff _ hv.2⟩
      · rw [if_neg hv] at h
        cases h
theorem pz_of_par {k : Nat} {t : pz_T} (hw : pz_wf k t) {n s c : Nat} (hn : n < 8) (h1 : pz_kd t n = 1) (hs : s < pz_ct t n) (hc : pz_it t n s % 16 = c) : pz_par t c 8 = some n := by
  have hsome : ∃ i, pz_par t c 8 = some i := by
    cases hq : pz_par t c (n + 1) with
    | some i =>
      have := pz_par_m hq (8 - (n + 1))
      rw [show n + 1 + (8 - (n + 1)) = 8 by omega] at this
      exact ⟨i, this⟩
    | none =>
      cases hq2 : pz_par t c n with
      | some i => rw [pz_par_m hq2 1] at hq; cases hq
      | none =>
        rw [pz_par_s hq2, if_pos ⟨h1, pz_hd_of hc hs⟩] at hq
        cases hq
  obtain ⟨i, hi⟩ := hsome
  obtain ⟨g1, s', g2, g3⟩ := pz_par_of 8 hi
  have hi8 := pz_par_lt 8 hi
  have := (hw.2.2.2.2.2.1 n s i s' hn hi8 h1 g1 hs g2 (by rw [hc, g3])).1
  rw [hi, this]
theorem pz_anc_1 {t : pz_T} {c n : Nat} (h : pz_par t c 8 = some n) : ∀ j, pz_anc t c (j + 1) = pz_anc t n j
  | 0 => by
    show (some c).bind (fun x => pz_par t x 8) = some n
    exact h
  | j + 1 => by
    show (pz_anc t c (j + 1)).bind (fun x => pz_par t x 8) = (pz_anc t n j).bind (fun x => pz_par t x 8)
    rw [pz_anc_1 h j]
theorem pz_anc_0 {t : pz_T} {c x : Nat} : ∀ j, pz_anc t c (j + 1) = some x → ∃ n, pz_par t c 8 = some n ∧ pz_anc t n j = some x := by
  intro j h
  cases hp : pz_par t c 8 with
  | some n => exact ⟨n, rfl, by rw [← pz_anc_1 hp]; exact h⟩
  | none =>
    have h1 : pz_anc t c 1 = none := hp
    have := pz_anc_none h1 j
    rw [Nat.add_comm 1 j, h] at this
    cases this
theorem pz_anc_add {t : pz_T} {c d : Nat} {a : Nat} (h : pz_anc t c a = some d) : ∀ m, pz_anc t c (a + m) = pz_anc t d m
  | 0 => h
  | m + 1 => by
    show (pz_anc t c (a + m)).bind (fun x => pz_par t x 8) = (pz_anc t d m).bind (fun x => pz_par t x 8)
    rw [pz_anc_add h m]
theorem pz_anc_lt {t : pz_T} {c : Nat} (hc : c < 8) : ∀ j x, pz_anc t c j = some x → x < 8
  | 0, x, h => by cases h; exact hc
  | j + 1, x, h => by
    cases hq : pz_anc t c j with
    | none =>
      have h : (pz_anc t c j).bind (fun x => pz_par t x 8) = some x := h
      rw [hq] at h
      cases h
    | some d =>
      have h : (pz_anc t c j).bind (fun x => pz_par t x 8) = some x := h
      rw [hq] at h
      exact pz_par_lt 8 h
/-- an ancestor is found within seven steps -/
theorem pz_anc_short {t : pz_T} {c x : Nat} (hc : c < 8) : ∀ j, pz_anc t c j = some x → ∃ i, i < 8 ∧ pz_anc t c i = some x := by
  intro j
  induction j using Nat.strongRecOn with
  | _ j ih =>
    intro h
    by_cases hj : j < 8
    · exact ⟨j, hj, h⟩
    · have hall : ∀ i, i ≤ 8 → ∃ d, pz_anc t c i = some d := fun i hi => by
        cases hq : pz_anc t c i with
        | some d => exact ⟨d, rfl⟩
        | none =>
          have := pz_anc_none hq (j - i)
          rw [show i + (j - i) = j by omega, h] at this
          cases this
      obtain ⟨a, b, h1, h2, h3⟩ := pz_php 8 (fun i => (pz_anc t c i).getD 0) (fun i hi => by
        obtain ⟨d, hd⟩ := hall i hi
        show (pz_anc t c i).getD 0 < 8
        rw [hd]
        exact pz_anc_lt hc i d hd)
      obtain ⟨d, hd⟩ := hall a (by omega)
      obtain ⟨e, he⟩ := hall b h2
      have h3 : (pz_anc t c a).getD 0 = (pz_anc t c b).getD 0 := h3
      rw [hd, he] at h3
      have h3 : d = e := h3
      subst h3
      refine ih (a + (j - b)) (by omega) ?_
      rw [pz_anc_add hd (j - b), ← pz_anc_add he (j - b), show b + (j - b) = j by omega]
      exact h
theorem pz_below_iff {t : pz_T} {c x : Nat} : ∀ k, pz_below t c x k = true ↔ ∃ j, j < k ∧ pz_anc t c j = some x
  | 0 => ⟨fun h => (by cases h), fun ⟨j, h, _⟩ => (by omega)⟩
  | k + 1 => by
    have ih := pz_below_iff (t := t) (c := c) (x := x) k
    show (pz_below t c x k || (pz_anc t c k == some x)) = true ↔ _
    rw [Bool.or_eq_true, ih, beq_iff_eq]
    constructor
    · intro h
      rcases h with ⟨j, h1, h2⟩ | h
      · exact ⟨j, by omega, h2⟩
      · exact ⟨k, by omega, h⟩
    · intro ⟨j, h1, h2⟩
      by_cases hj : j = k
      · subst hj; exact Or.inr h2
      · exact Or.inl ⟨j, by omega, h2⟩
theorem pz_bi_iff {t : pz_T} {n : Nat} {bl : Nat → Bool} {c : Nat} : ∀ s, pz_bi t n bl s c = true ↔ bl c = true ∨ ∃ i, i < s ∧ pz_it t n i % 16 = c
  | 0 => ⟨fun h => Or.inl h, fun h => by
      rcases h with h | ⟨i, h, _⟩
      · exact h
      · omega⟩
  | s + 1 => by
    have ih := pz_bi_iff (t := t) (n := n) (bl := bl) (c := c) s
    show pz_up (pz_bi t n bl s) (pz_it t n s % 16) true c = true ↔ _
    by_cases hc : c = pz_it t n s % 16
    · subst hc
      rw [pz_up_s]
      exact ⟨fun _ => Or.inr ⟨s, by omega, rfl⟩, fun _ => rfl⟩
    · rw [pz_up_n hc, ih]
      constructor
      · intro h
        rcases h with h | ⟨i, h1, h2⟩
        · exact Or.inl h
        · exact Or.inr ⟨i, by omega, h2⟩
      · intro h
        rcases h with h | ⟨i, h1, h2⟩
        · exact Or.inl h
        · refine Or.inr ⟨i, ?_, h2⟩
          by_cases his : i = s
          · subst his; exact absurd h2.symm hc
          · omega
theorem pz_bn_keep {t : pz_T} {bl : Nat → Bool} {n c : Nat} (h : bl c = true) : pz_bn t bl n c = true := by
  unfold pz_bn
  split
  · exact pz_bi_keep h _
  · exact h
theorem pz_br_keep {t : pz_T} {bl : Nat → Bool} {c a : Nat} (h : pz_br t bl a c = true) : ∀ m, pz_br t bl (a + m) c = true
  | 0 => h
  | m + 1 => pz_bn_keep (pz_br_keep h m)
theorem pz_below_eq {k : Nat} {t : pz_T} (hw : pz_wf k t) {c x : Nat} (hc : c < 8) (hx : x < 8) : pz_brr t (fun n => n == x) 8 c = pz_below t c x 8 := by
  -- what is marked is below
  have sbn : ∀ (bl : Nat → Bool), (∀ d, bl d = true → ∃ j, pz_anc t d j = some x) → ∀ n, n < 8 → ∀ d, pz_bn t bl n d = true → ∃ j, pz_anc t d j = some x := by
    intro bl hb n hn d hd
    unfold pz_bn at hd
    by_cases hcond : bl n = true ∧ pz_kd t n = 1
    · rw [if_pos hcond, pz_bi_iff] at hd
      rcases hd with hd | ⟨i, h1, h2⟩
      · exact hb d hd
      · obtain ⟨j, hj⟩ := hb n hcond.1
        exact ⟨j + 1, by rw [pz_anc_1 (pz_of_par hw hn hcond.2 h1 h2)]; exact hj⟩
    · rw [if_neg hcond] at hd
      exact hb d hd
  have sbr : ∀ (bl : Nat → Bool), (∀ d, bl d = true → ∃ j, pz_anc t d j = some x) → ∀ n, n ≤ 8 → ∀ d, pz_br t bl n d = true → ∃ j, pz_anc t d j = some x := by
    intro bl hb n
    induction n with
    | zero => exact fun _ d hd => hb d hd
    | succ n ih => exact fun hn d hd => sbn _ (ih (by omega)) n (by omega) d hd
  have srr : ∀ r d, pz_brr t (fun n => n == x) r d = true → ∃ j, pz_anc t d j = some x := by
    intro r
    induction r with
    | zero => exact fun d hd => ⟨0, by rw [beq_iff_eq.mp hd]; rfl⟩
    | succ r ih => exact fun d hd => sbr _ ih 8 (Nat.le_refl 8) d hd
  -- what is below is marked
  have crr : ∀ r d, d < 8 → ∀ j, j ≤ r → pz_anc t d j = some x → pz_brr t (fun n => n == x) r d = true := by
    intro r
    induction r with
    | zero =>
      intro d hd j hj ha
      have : j = 0 := by omega
      subst this
      have ha : some d = some x := ha
      cases ha
      exact beq_self_eq_true _
    | succ r ih =>
      intro d hd j hj ha
      show pz_br t (pz_brr t (fun n => n == x) r) 8 d = true
      cases j with
      | zero =>
        have h1 := ih d hd 0 (by omega) ha
        have := pz_br_keep (t := t) (a := 0) (bl := pz_brr t (fun n => n == x) r) (c := d) h1 8
        rw [Nat.zero_add] at this
        exact this
      | succ j =>
        obtain ⟨n, hn, han⟩ := pz_anc_0 j ha
        have hn8 := pz_par_lt 8 hn
        obtain ⟨g1, s, g2, g3⟩ := pz_par_of 8 hn
        have h1 := ih n hn8 j (by omega) han
        have h2 := pz_br_keep (t := t) (a := 0) (bl := pz_brr t (fun n => n == x) r) (c := n) h1 n
        rw [Nat.zero_add] at h2
        have h3 : pz_br t (pz_brr t (fun n => n == x) r) (n + 1) d = true := by
          show pz_bn t (pz_br t (pz_brr t (fun n => n == x) r) n) n d = true
          unfold pz_bn
          rw [if_pos ⟨h2, g1⟩, pz_bi_iff]
          exact Or.inr ⟨s, g2, g3⟩
        have h4 := pz_br_keep h3 (8 - (n + 1))
        rw [show n + 1 + (8 - (n + 1)) = 8 by omega] at h4
        exact h4
  cases hb : pz_below t c x 8 with
  | true =>
    obtain ⟨j, h1, h2⟩ := (pz_below_iff 8).mp hb
    exact crr 8 c hc j (by omega) h2
  | false =>
    cases hr : pz_brr t (fun n => n == x) 8 c with
    | false => rfl
    | true =>
      obtain ⟨j, hj⟩ := srr 8 c hr
      obtain ⟨i, h1, h2⟩ := pz_anc_short hc j hj
      rw [(pz_below_iff 8).mpr ⟨i, h1, h2⟩] at hb
      cases hb
