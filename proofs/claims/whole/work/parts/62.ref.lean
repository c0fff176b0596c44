theorem r_46 {t : pz_T} {f f1 : aw_H} {j k : Nat} {en : Nat → Nat} (h1 : f1 46 = upd (f 46) j (nI k)) (h : ∀ i, i < 8 → pz_kd t i ≠ 0 → (i < j ∨ pz_ch t i = false) → f 46 i = nI (en i) + (-1)) : ∀ i, i < 8 → pz_kd t i ≠ 0 → (i < j + 1 ∨ pz_ch t i = false) → f1 46 i = nI (pz_up en j (k + 1) i) + (-1) := by
  intro i hi z1 z2
  rw [h1]
  by_cases hij : i = j
  · subst hij
    rw [pz_up_s, pk_m1]
    exact if_pos rfl
  · rw [pz_up_n hij]
    show (if i = j then nI k else f 46 i) = _
    rw [if_neg hij]
    refine h i hi z1 ?_
    rcases z2 with z2 | z2
    · exact Or.inl (by omega)
    · exact Or.inr z2
theorem r_46b {t : pz_T} {f : aw_H} {j : Nat} {en : Nat → Nat} (hj : pz_ch t j = false) (h : ∀ i, i < 8 → pz_kd t i ≠ 0 → (i < j ∨ pz_ch t i = false) → f 46 i = nI (en i) + (-1)) : ∀ i, i < 8 → pz_kd t i ≠ 0 → (i < j + 1 ∨ pz_ch t i = false) → f 46 i = nI (en i) + (-1) := by
  intro i hi z1 z2
  refine h i hi z1 ?_
  rcases z2 with z2 | z2
  · by_cases hij : i = j
    · subst hij; exact Or.inr hj
    · exact Or.inl (by omega)
  · exact Or.inr z2
theorem q_close {l : Launch} {G : aw_G} (hG : gr G) {h : aw_H} {S : pz_S} (hS : qz G S h) (hI : pz_inv S) : aw_F l G 8 Y_R_close [.inl (some 40)] h (fun v h' => v = .inr (pz_close S).1 ∧ qz G (pz_close S).2 h' ∧ ∀ q, q < 40 → h' q = h q) := by
  obtain ⟨n, k, w, sp, t⟩ := S
  have hi := hI.iz
  obtain ⟨-, -, -, -, -, h0, hwf, hkp, h9⟩ := hI
  have hS' := hS
  obtain ⟨hn, hw, hm, hT⟩ := hS
  have hn : n = aw_n G := hn
  have hw : rw_ w h := hw
  have hm : rm_ G k sp h := hm
  have hT : rt t h := hT
  have hwf : pz_wf k t := hwf
  have h0 : ∀ x, 16 * k ≤ x → w x = 0 := h0
  have n2 := hG.1.2.2.2
  have hkn := hm.2.2.1
  have e1 := hm.1
  have e2 := hm.2.1
  have hnum : pz_num w k ≤ k := pz_num_le (fun p hp h3 => (h9 p hp h3).2.2)
  refine aw_met hG.1.1 (by decide) (Nat.le_of_ble_eq_true rfl) (fun M hM B E => ?_)
  show aw_X M G 5 0 [some (.inl (some 40)), none, none, none, none] [] h
  have i40 := hG.i40
  have a41 := hG.a41
  have a42 := hG.a42
  have a45 := hG.a45
  have a46 := hG.a46
  have a50 := hG.a50
  have r0 : aw_rM 40 0 = some 41 := rfl
  have r5 : aw_rM 40 5 = some 42 := rfl
  have r8 : aw_rM 40 8 = some 45 := rfl
  have r9 : aw_rM 40 9 = some 46 := rfl
  have r13 : aw_rM 40 13 = some 50 := rfl
  have hC := r_changedWith (l := M.2.1) hG hT (a := 8) (b := 8) (g := 8) (by omega) (by omega) (by omega)
  rw [pz_cw_none, eI_8] at hC
  have hC : aw_I M.2.1 G 0 Y_R_changedWith [.inl (some 40), .inr (-1), .inr (-1), .inr (-1)] h (.inr (nI (pz_nch t 8))) := hC
  have hcp : pz_nch t 8 ≤ 8 := pz_cp_le (pz_ch t) 8
  unfold pz_close at E
  refine ax_aload_n (q := 1) B d_R_close_0 rfl rfl rfl ?_
  refine ax_iconst (v := (-1)) (q := 2) B d_R_close_1 ci_m1 rfl ?_
  refine ax_iconst (v := (-1)) (q := 3) B d_R_close_2 ci_m1 rfl ?_
  refine ax_iconst (v := (-1)) (q := 4) B d_R_close_3 ci_m1 rfl ?_
  refine ax_qV3 (q := 7) B cv_R_103 d_R_close_4 (by assumption) (Nat.le_of_ble_eq_true rfl) (by decide) hC rfl ?_
  by_cases hc0 : pz_nch t 8 = 0
  · simp only [hc0, if_true] at E
    rw [hc0]
    refine ax_istore_n (q := 8) B d_R_close_7 rfl (by decide) rfl ?_
    refine ax_iload_n (q := 9) B d_R_close_8 rfl rfl rfl ?_
    refine ax_ifN_ne (q := 14) (q2 := 12) B (by omega) d_R_close_9 rfl rfl (fun h9 => ?_) (fun h9 => ?_)
    · omega
    · refine ax_iconst (v := nI 0) (q := 13) B d_R_close_12 ci_0 rfl ?_
      refine ax_iret B E d_R_close_13 ?_
      exact ⟨_, rfl, rfl, hS', fun q _ => rfl⟩
  simp only [hc0, if_false] at E
  have tail : ¬ aw_n G < k + 0 + pz_nch t 8 + 1 → ∀ num u2, num = pz_num w k + 1 → aw_X M G 5 59 [some (.inl (some 40)), some (.inr (nI (pz_nch t 8))), u2, some (.inr (nI num)), none] [] h := by
    intro hfull num u2 hnm
    rw [if_neg (by rw [hn]; exact hfull)] at E
    rw [← hnm] at E
    -- the marks go, the answer
    have last : ∀ (k2 sp2 : Nat) (w2 en2 : Nat → Nat), rw_ w2 h = rw_ w2 h → aw_E M G (some .int) (fun r h' => ∃ v, r = some v ∧ (v = .inr (nI (pz_nch t 8 + 1)) ∧ qz G (n, k2, w2, sp2, (pz_kd t, pz_ct t, fun _ => false, en2, pz_it t)) h' ∧ ∀ q, q < 40 → h' q = h q)) → ∀ m j (f : aw_H), j + m = 8 → rw_ w2 f → rm_ G k2 sp2 f → (∀ i, i < 8 → f 42 i = nI (pz_kd t i) ∧ f 43 i = nI (pz_ct t i) ∧ (∀ s, s < pz_ct t i → f 44 (10 * i + s) = nI (pz_it t i s)) ∧ (pz_kd t i ≠ 0 → f 46 i = nI (en2 i) + (-1))) → (∀ i, i < j → f 45 i = nI 0) → (∀ q, q < 40 → f q = h q) → aw_X M G 5 164 [some (.inl (some 40)), some (.inr (nI (pz_nch t 8))), u2, some (.inr (nI num)), some (.inr (nI j))] [] f := by
      intro k2 sp2 w2 en2 _ E m
      induction m with
      | zero =>
        intro j f hj fw fm fT fc ff
        have hj : j = 8 := by omega
        subst hj
        have fin : rt (pz_kd t, pz_ct t, fun _ => false, en2, pz_it t) f := fun i hi8 => by
          obtain ⟨-, -, -, b4, b5, b6, -⟩ := hT i hi8
          obtain ⟨c1, c2, c3, c4⟩ := fT i hi8
          exact ⟨c1, c2, fc i hi8, b4, b5, fun s hs => ⟨c3 s hs, (b6 s hs).2⟩, fun z _ => c4 z⟩
        refine ax_iload (q := 166) B d_R_close_164 rfl rfl ?_
        refine ax_bipush (v := nI 8) (q := 168) B d_R_close_166 cb_8 rfl ?_
        refine ax_icmpN_ge (q := 185) (q2 := 171) B (by omega) (by omega) d_R_close_168 rfl rfl (fun h168 => ?_) (fun h168 => ?_)
        · refine ax_iload_n (q := 186) B d_R_close_185 rfl rfl rfl ?_
          refine ax_iconst (v := nI 1) (q := 187) B d_R_close_186 ci_1 rfl ?_
          first | refine ax_iaddN (q := 188) B d_R_close_187 rfl ?_ | refine ax_iadd (q := 188) B d_R_close_187 rfl ?_
          refine ax_iret B E d_R_close_188 ?_
          exact ⟨_, rfl, rfl, ⟨hn, fw, fm, fin⟩, ff⟩
        · omega
      | succ m ih =>
        intro j f hj fw fm fT fc ff
        refine ax_iload (q := 166) B d_R_close_164 rfl rfl ?_
        refine ax_bipush (v := nI 8) (q := 168) B d_R_close_166 cb_8 rfl ?_
        refine ax_icmpN_ge (q := 185) (q2 := 171) B (by omega) (by omega) d_R_close_168 rfl rfl (fun h168 => ?_) (fun h168 => ?_)
        · omega
        · refine ax_aload_n (q := 172) B d_R_close_171 rfl rfl rfl ?_
          refine ax_getP (q := 175) B fl_R_22 rfl d_R_close_172 (by assumption) (by assumption) rfl ?_
          refine ax_iload (q := 177) B d_R_close_175 rfl rfl ?_
          refine ax_iconst (v := nI 0) (q := 178) B d_R_close_177 ci_0 rfl ?_
          refine ax_zastN (q := 179) B d_R_close_178 (by assumption) rfl (by omega) (by omega) (by first | exact bI_or _ | decide) rfl ?_
          refine ax_iincN (j := 1) (q := 182) B d_R_close_179 rfl ii_1 (by decide) rfl ?_
          refine ax_goto (q := 164) B d_R_close_182 rfl ?_
          refine ih (j + 1) _ (by omega) (fw.kept (aw_u_ne (by omega))) (fm.kept (aw_u_ne (by omega))) (fun i hi8 => ?_) (fun i hi => ?_) (fun q hq => (aw_u_ne (by omega)).trans (ff q hq))
          · obtain ⟨c1, c2, c3, c4⟩ := fT i hi8
            exact ⟨aw_rd (by omega) c1, aw_rd (by omega) c2, fun s hs => aw_rd (by omega) (c3 s hs), fun z => aw_rd (by omega) (c4 z)⟩
          · by_cases hij : i = j
            · subst hij; exact aw_rs
            · exact aw_rd (by omega) (fc i (by omega))
    -- the table
    have table : ∀ (k' sp' : Nat) (w' en' : Nat → Nat), pz_es t k w sp 8 = ((k', w', sp', en'), false) → ∀ f : aw_H, rw_ w' f → rm_ G k' sp' f → (∀ i, i < 8 → f 42 i = nI (pz_kd t i) ∧ f 43 i = nI (pz_ct t i) ∧ (∀ s, s < pz_ct t i → f 44 (10 * i + s) = nI (pz_it t i s)) ∧ (pz_kd t i ≠ 0 → f 46 i = nI (en' i) + (-1))) → (∀ q, q < 40 → f q = h q) → ∀ u, aw_X M G 5 97 [some (.inl (some 40)), some (.inr (nI (pz_nch t 8))), u2, some (.inr (nI num)), u] [] f := by
      intro k' sp' w' en' hes f fw fm fT ff u
      have hok := pz_es_ok (t := t) (sp := sp) hi h0 (n := aw_n G) (by omega) n2 8 (by omega)
      have hez := pz_es_kept (sp := sp) hwf hkp 8 (by omega)
      have hek := pz_es_k (t := t) (k := k) (sp := sp) (w := w) 8
      rw [hes] at hok hez hek
      simp only [hes] at E
      obtain ⟨a1, a2, a3, a4, a5, a7⟩ := hok
      have a1 : iz k' w' := a1
      have hek : k' = k + pz_nch t 8 := hek rfl
      have hez : ∀ i, i < 8 → ez k' w' en' t i := fun i hi8 => hez rfl i hi8 (Or.inl hi8)
      have hen : ∀ i, i < 8 → en' i ≤ k' ∧ (en' i = 0 ∨ w' (16 * (en' i - 1) + 5) ≤ 10) := fun i hi8 => (hez i hi8).en (hwf.ct10 hi8)
      have wrt : ∀ (g : Nat → Nat) (f2 : aw_H), secz g f2 → (∀ x, x < 16 → x ≠ 1 → g x = pz_table k' num en' x) → (∀ q, q ≠ 50 → f2 q = f q) → ∀ u, aw_X M G 5 151 [some (.inl (some 40)), some (.inr (nI (pz_nch t 8))), u2, some (.inr (nI num)), u] [] f2 := by
        intro g f2 hsec hg hf2 u
        refine ax_aload_n (q := 152) B d_R_close_151 rfl rfl rfl ?_
        refine ax_gV0 (q := 155) B cv_R_117 d_R_close_152 (by assumption) (Nat.le_of_ble_eq_true rfl) (by decide) (r_writeSector hG (fw.kept (hf2 41 (by omega))) (fm.kept (hf2 40 (by omega))) hsec (by omega) (by rw [pz_sec_congr hg]; exact iz_tab a1 hen)) rfl (fun r h3 hh3 => ?_)
        obtain ⟨rfl, hw3, hm3, hb3, hf3, hf4⟩ := hh3
        rw [pz_sec_congr hg] at hw3 hb3
        have fr3 : ∀ q, q < 40 → h3 q = h q := fun q hq => by rw [hf4 q hq, hf2 q (by omega), ff q hq]
        by_cases hsp : sp' = 1
        · subst hsp
          simp only [if_true] at E
          refine ax_ifZ_ne (q := 161) (q2 := 158) B d_R_close_155 rfl rfl (fun z => absurd z (by decide)) (fun _ => ?_)
          refine ax_bipush (v := (-5)) (q := 160) B d_R_close_158 cb_m5 rfl ?_
          refine ax_iret B E d_R_close_160 ?_
          exact ⟨_, rfl, rfl, ⟨hn, hw3, hm3, hb3 rfl⟩, fr3⟩
        · simp only [hsp, if_false] at E
          rw [pz_beq_ne hsp] at hw3
          have hf3 := hf3 hsp
          refine ax_ifZ_ne (q := 161) (q2 := 158) B d_R_close_155 rfl rfl (fun _ => ?_) (fun z => by rw [decide_eq_true hsp] at z; cases z)
          refine ax_iconst (v := nI 0) (q := 162) B d_R_close_161 ci_0 rfl ?_
          refine ax_istore (q := 164) B d_R_close_162 (by decide) rfl ?_
          exact last (k' + 1) (sp' - 1) _ en' rfl E 8 0 h3 rfl hw3 hm3 (fun i hi8 => by rw [hf3 42 (by omega), hf3 43 (by omega), hf3 44 (by omega), hf3 46 (by omega), hf2 42 (by omega), hf2 43 (by omega), hf2 44 (by omega), hf2 46 (by omega)]; exact fT i hi8) (fun i hi => absurd hi (by omega)) fr3
      have fill : ∀ m j (g : Nat → Nat) (f2 : aw_H), j + m = 8 → secz g f2 → (∀ x, x < 16 → x ≠ 1 → g x = if 4 ≤ x ∧ 4 + j ≤ x then 0 else pz_table k' num en' x) → (∀ q, q ≠ 50 → f2 q = f q) → aw_X M G 5 106 [some (.inl (some 40)), some (.inr (nI (pz_nch t 8))), u2, some (.inr (nI num)), some (.inr (nI j))] [] f2 := by
        intro m
        induction m with
        | zero =>
          intro j g f2 hj hsec hg hf2
          have hj : j = 8 := by omega
          subst hj
          have hg2 : ∀ x, x < 16 → x ≠ 1 → g x = pz_table k' num en' x := fun x hx h1 => by
            rw [hg x hx h1]
            by_cases h12 : 4 ≤ x ∧ 4 + 8 ≤ x
            · rw [if_pos h12]
              unfold pz_table
              rw [if_neg (by omega), if_neg (by omega), if_neg (by omega), if_neg (by omega)]
            · rw [if_neg h12]
          refine ax_iload (q := 108) B d_R_close_106 rfl rfl ?_
          refine ax_bipush (v := nI 8) (q := 110) B d_R_close_108 cb_8 rfl ?_
          refine ax_icmpN_ge (q := 151) (q2 := 113) B (by omega) (by omega) d_R_close_110 rfl rfl (fun h110 => ?_) (fun h110 => ?_)
          · exact wrt g f2 hsec hg2 hf2 _
          · omega
        | succ m ih =>
          intro j g f2 hj hsec hg hf2
          obtain ⟨c1, -, -, c4⟩ := fT j (by omega)
          have hlj := (hT j (by omega)).2.2.2.1
          have d1 : f2 42 j = nI (pz_kd t j) := by rw [hf2 42 (by omega)]; exact c1
          have hej := (hen j (by omega)).1
          have step : ∀ y : Nat, y = en' j → aw_X M G 5 144 [some (.inl (some 40)), some (.inr (nI (pz_nch t 8))), u2, some (.inr (nI num)), some (.inr (nI j))] [.inr (nI y), .inr (nI (4 + j)), .inl (some 50)] f2 := by
            intro y hy
            subst hy
            refine ax_iastN (q := 145) B d_R_close_144 (by assumption) rfl (by omega) (by omega) rfl ?_
            refine ax_iincN (j := 1) (q := 148) B d_R_close_145 rfl ii_1 (by decide) rfl ?_
            refine ax_goto (q := 106) B d_R_close_148 rfl ?_
            refine ih (j + 1) _ _ (by omega) (hsec.put (i := 4 + j) (show en' j < 65536 by omega)) (fun x hx h1 => ?_) (fun q hq => (aw_u_ne hq).trans (hf2 q hq))
            by_cases hxj : x = 4 + j
            · subst hxj
              rw [pz_up_s, if_neg (by omega)]
              unfold pz_table
              rw [if_neg (by omega), if_neg (by omega), if_neg (by omega), if_pos (by omega), show 4 + j - 4 = j by omega]
            · rw [pz_up_n hxj, hg x hx h1]
              by_cases h12 : 4 ≤ x ∧ 4 + j ≤ x
              · rw [if_pos h12, if_pos (by omega)]
              · rw [if_neg h12, if_neg (by omega)]
          by_cases hk0 : pz_kd t j = 0
          · have hz := (hez j (by omega)).1 hk0
            refine ax_iload (q := 108) B d_R_close_106 rfl rfl ?_
            refine ax_bipush (v := nI 8) (q := 110) B d_R_close_108 cb_8 rfl ?_
            refine ax_icmpN_ge (q := 151) (q2 := 113) B (by omega) (by omega) d_R_close_110 rfl rfl (fun h110 => ?_) (fun h110 => ?_)
            · omega
            · refine ax_aload_n (q := 114) B d_R_close_113 rfl rfl rfl ?_
              refine ax_getP (q := 117) B fl_R_38 rfl d_R_close_114 (by assumption) (by assumption) rfl ?_
              refine ax_iconst (v := nI 4) (q := 118) B d_R_close_117 ci_4 rfl ?_
              refine ax_iload (q := 120) B d_R_close_118 rfl rfl ?_
              first | refine ax_iaddN (q := 121) B d_R_close_120 rfl ?_ | refine ax_iadd (q := 121) B d_R_close_120 rfl ?_
              refine ax_aload_n (q := 122) B d_R_close_121 rfl rfl rfl ?_
              refine ax_getP (q := 125) B fl_R_13 rfl d_R_close_122 (by assumption) (by assumption) rfl ?_
              refine ax_iload (q := 127) B d_R_close_125 rfl rfl ?_
              refine ax_ialdN (q := 128) B d_R_close_127 (by assumption) rfl (by omega) (by omega) (by first | assumption | rfl) rfl ?_
              refine ax_ifN_ne (q := 135) (q2 := 131) B (by omega) d_R_close_128 rfl rfl (fun h128 => ?_) (fun h128 => ?_)
              · omega
              · refine ax_iconst (v := nI 0) (q := 132) B d_R_close_131 ci_0 rfl ?_
                refine ax_goto (q := 144) B d_R_close_132 rfl ?_
                exact step 0 hz.symm
          · have d6 : f2 46 j = nI (en' j) + (-1) := by rw [hf2 46 (by omega)]; exact c4 hk0
            refine ax_iload (q := 108) B d_R_close_106 rfl rfl ?_
            refine ax_bipush (v := nI 8) (q := 110) B d_R_close_108 cb_8 rfl ?_
            refine ax_icmpN_ge (q := 151) (q2 := 113) B (by omega) (by omega) d_R_close_110 rfl rfl (fun h110 => ?_) (fun h110 => ?_)
            · omega
            · refine ax_aload_n (q := 114) B d_R_close_113 rfl rfl rfl ?_
              refine ax_getP (q := 117) B fl_R_38 rfl d_R_close_114 (by assumption) (by assumption) rfl ?_
              refine ax_iconst (v := nI 4) (q := 118) B d_R_close_117 ci_4 rfl ?_
              refine ax_iload (q := 120) B d_R_close_118 rfl rfl ?_
              first | refine ax_iaddN (q := 121) B d_R_close_120 rfl ?_ | refine ax_iadd (q := 121) B d_R_close_120 rfl ?_
              refine ax_aload_n (q := 122) B d_R_close_121 rfl rfl rfl ?_
              refine ax_getP (q := 125) B fl_R_13 rfl d_R_close_122 (by assumption) (by assumption) rfl ?_
              refine ax_iload (q := 127) B d_R_close_125 rfl rfl ?_
              refine ax_ialdN (q := 128) B d_R_close_127 (by assumption) rfl (by omega) (by omega) (by first | assumption | rfl) rfl ?_
              refine ax_ifN_ne (q := 135) (q2 := 131) B (by omega) d_R_close_128 rfl rfl (fun h128 => ?_) (fun h128 => ?_)
              · refine ax_aload_n (q := 136) B d_R_close_135 rfl rfl rfl ?_
                refine ax_getP (q := 139) B fl_R_26 rfl d_R_close_136 (by assumption) (by assumption) rfl ?_
                refine ax_iload (q := 141) B d_R_close_139 rfl rfl ?_
                refine ax_ialdN (q := 142) B d_R_close_141 (by assumption) rfl (by omega) (by omega) (by first | assumption | rfl) rfl ?_
                refine ax_iconst (v := nI 1) (q := 143) B d_R_close_142 ci_1 rfl ?_
                refine ax_iadd (q := 144) B d_R_close_143 rfl ?_
                refine ax_top (m1p _) ?_
                exact step _ rfl
              · omega
      refine ax_aload_n (q := 98) B d_R_close_97 rfl rfl rfl ?_
      refine ax_iconst (v := nI 3) (q := 99) B d_R_close_98 ci_3 rfl ?_
      refine ax_iload_n (q := 100) B d_R_close_99 rfl rfl rfl ?_
      refine ax_pV2 (q := 103) B cv_R_114 d_R_close_100 (by assumption) (Nat.le_of_ble_eq_true rfl) (by decide) (r_clearSector hG fm.2.1 (by omega) (by omega) (by omega)) rfl (fun f1 hf1 => ?_)
      refine ax_iconst (v := nI 0) (q := 104) B d_R_close_103 ci_0 rfl ?_
      refine ax_istore (q := 106) B d_R_close_104 (by decide) rfl ?_
      refine fill 8 0 _ f1 rfl hf1.1 (fun x hx h1 => ?_) hf1.2
      by_cases x4 : 4 ≤ x ∧ 4 + 0 ≤ x
      · rw [if_pos x4]
        unfold pz_hdr
        rw [if_neg (by omega), if_neg (by omega), if_neg (by omega)]
      · rw [if_neg x4]
        unfold pz_hdr pz_table
        by_cases x0 : x = 0
        · subst x0; rfl
        · by_cases x2 : x = 2
          · subst x2; rfl
          · have x3 : x = 3 := by omega
            subst x3; rfl
    -- the entries
    have loop : ∀ m j (f : aw_H) (k' sp' : Nat) (w' en' : Nat → Nat), j + m = 8 → pz_es t k w sp j = ((k', w', sp', en'), false) → rw_ w' f → rm_ G k' sp' f → (∀ q, 42 ≤ q → q < 46 → f q = h q) → (∀ i, i < 8 → pz_kd t i ≠ 0 → (i < j ∨ pz_ch t i = false) → f 46 i = nI (en' i) + (-1)) → (∀ q, q < 40 → f q = h q) → aw_X M G 5 62 [some (.inl (some 40)), some (.inr (nI (pz_nch t 8))), u2, some (.inr (nI num)), some (.inr (nI j))] [] f := by
      intro m
      induction m with
      | zero =>
        intro j f k' sp' w' en' hj hes fw fm f42 f46 ff
        have hj : j = 8 := by omega
        subst hj
        refine ax_iload (q := 64) B d_R_close_62 rfl rfl ?_
        refine ax_bipush (v := nI 8) (q := 66) B d_R_close_64 cb_8 rfl ?_
        refine ax_icmpN_ge (q := 97) (q2 := 69) B (by omega) (by omega) d_R_close_66 rfl rfl (fun h66 => ?_) (fun h66 => ?_)
        · exact table k' sp' w' en' hes f fw fm (fun i hi8 => by rw [f42 42 (by omega) (by omega), f42 43 (by omega) (by omega), f42 44 (by omega) (by omega)]; exact ⟨(hT i hi8).1, (hT i hi8).2.1, fun s hs => ((hT i hi8).2.2.2.2.2.1 s hs).1, fun z => f46 i hi8 z (Or.inl hi8)⟩) ff _
        · omega
      | succ m ih =>
        intro j f k' sp' w' en' hj hes fw fm f42 f46 ff
        have hs := pz_es_s hes
        have hok := pz_es_ok (t := t) (sp := sp) hi h0 (n := aw_n G) (by omega) n2 j (by omega)
        have hek := pz_es_k (t := t) (k := k) (sp := sp) (w := w) j
        rw [hes] at hok hek
        have a1 : iz k' w' := hok.1
        have hek : k' = k + pz_nch t j := hek rfl
        have hmono : pz_nch t (j + 1) ≤ pz_nch t 8 := pz_cp_mono (by omega)
        have hnc : pz_nch t (j + 1) = pz_nch t j + (if pz_ch t j = true then 1 else 0) := rfl
        have e5 : f 45 j = bI (pz_ch t j) := by rw [f42 45 (by omega) (by omega)]; exact (hT j (by omega)).2.2.1
        have fT : rt (pz_tr t en') f := fun i hi8 => by
          obtain ⟨b1, b2, b3, b4, b5, b6, -⟩ := hT i hi8
          unfold rtN
          rw [f42 42 (by omega) (by omega), f42 43 (by omega) (by omega), f42 44 (by omega) (by omega), f42 45 (by omega) (by omega)]
          exact ⟨b1, b2, b3, b4, b5, b6, fun z1 z2 => f46 i hi8 z1 (Or.inr z2)⟩
        refine ax_iload (q := 64) B d_R_close_62 rfl rfl ?_
        refine ax_bipush (v := nI 8) (q := 66) B d_R_close_64 cb_8 rfl ?_
        refine ax_icmpN_ge (q := 97) (q2 := 69) B (by omega) (by omega) d_R_close_66 rfl rfl (fun h66 => ?_) (fun h66 => ?_)
        · omega
        · refine ax_aload_n (q := 70) B d_R_close_69 rfl rfl rfl ?_
          refine ax_getP (q := 73) B fl_R_22 rfl d_R_close_70 (by assumption) (by assumption) rfl ?_
          refine ax_iload (q := 75) B d_R_close_73 rfl rfl ?_
          refine ax_zaldN (q := 76) B d_R_close_75 (by assumption) rfl (by omega) (by omega) (by first | assumption | rfl) rfl ?_
          refine ax_ifZ_eq (q := 91) (q2 := 79) B d_R_close_76 rfl rfl (fun h76 => ?_) (fun h76 => ?_)
          · refine ax_iincN (j := 1) (q := 94) B d_R_close_91 rfl ii_1 (by decide) rfl ?_
            refine ax_goto (q := 62) B d_R_close_94 rfl ?_
            first | (have hsp : sp' ≠ 1 := of_decide_eq_true h85; rw [pz_beq_ne hsp] at hs gw; have gT := gT hsp; exact ih (j + 1) f1 _ _ _ _ (by omega) hs gw gm (fun q q1 q2 => by rw [gT.1 q q1 q2, f42 q q1 q2]) (r_46 gT.2 f46) (fun q hq => by rw [gf q hq, ff q hq])) | (rw [if_neg (by rw [h76]; decide)] at hs hnc; exact ih (j + 1) f _ _ _ _ (by omega) hs fw fm f42 (r_46b h76 f46) ff)
          · refine ax_aload_n (q := 80) B d_R_close_79 rfl rfl rfl ?_
            refine ax_iload (q := 82) B d_R_close_80 rfl rfl ?_
            rw [if_pos h76] at hs hnc
            refine ax_gV1 (q := 85) B cv_R_127 d_R_close_82 (by assumption) (Nat.le_of_ble_eq_true rfl) (by decide) (r_writeEntry hG fw fm fT (by omega) a1 (by omega)) rfl (fun v f1 hv => ?_)
            obtain ⟨rfl, gw, gm, gb, gT, gf⟩ := hv
            refine ax_ifZ_ne (q := 91) (q2 := 88) B d_R_close_85 rfl rfl (fun h85 => ?_) (fun h85 => ?_)
            · refine ax_iincN (j := 1) (q := 94) B d_R_close_91 rfl ii_1 (by decide) rfl ?_
              refine ax_goto (q := 62) B d_R_close_94 rfl ?_
              first | (have hsp : sp' ≠ 1 := of_decide_eq_true h85; rw [pz_beq_ne hsp] at hs gw; have gT := gT hsp; exact ih (j + 1) f1 _ _ _ _ (by omega) hs gw gm (fun q q1 q2 => by rw [gT.1 q q1 q2, f42 q q1 q2]) (r_46 gT.2 f46) (fun q hq => by rw [gf q hq, ff q hq])) | (rw [if_neg (by rw [h76]; decide)] at hs hnc; exact ih (j + 1) f _ _ _ _ (by omega) hs fw fm f42 (r_46b h76 f46) ff)
            · have hsp : sp' = 1 := Decidable.byContradiction (fun z => by rw [decide_eq_true z] at h85; cases h85)
              have e8 : pz_es t k w sp 8 = ((k' + 1, pz_sec w' k' (pz_entry k' j t) (sp' == 1), sp' - 1, pz_up en' j (k' + 1)), sp' == 1) := by rw [show (8 : Nat) = j + 1 + m by omega, pz_es_t (by rw [hs, hsp]; rfl) m, hs]
              rw [hsp] at e8 gw gm
              have e8 : pz_es t k w sp 8 = ((k' + 1, pz_sec w' k' (pz_entry k' j t) true, 0, pz_up en' j (k' + 1)), true) := e8
              simp only [e8] at E
              have gb := gb hsp
              refine ax_bipush (v := (-5)) (q := 90) B d_R_close_88 cb_m5 rfl ?_
              exact ax_iret B E d_R_close_90 ⟨_, rfl, rfl, ⟨hn, gw, gm, gb⟩, fun q hq => by rw [gf q hq, ff q hq]⟩
    refine ax_iconst (v := nI 0) (q := 60) B d_R_close_59 ci_0 rfl ?_
    refine ax_istore (q := 62) B d_R_close_60 (by decide) rfl ?_
    exact loop 8 0 h k sp w (pz_en t) rfl rfl hw hm (fun q _ _ => rfl) (fun i hi8 z1 z2 => (hT i hi8).2.2.2.2.2.2 z1 (z2.elim (fun z => absurd z (by omega)) (fun z => z))) (fun q _ => rfl)
  have tailN : ¬ aw_n G < k + 0 + pz_nch t 8 + 1 → aw_X M G 5 32 [some (.inl (some 40)), some (.inr (nI (pz_nch t 8))), none, none, none] [] h := by
    intro hfull
    have tail := tail hfull
    refine ax_aload_n (q := 33) B d_R_close_32 rfl rfl rfl ?_
    refine ax_qV0 (q := 36) B cv_R_92 d_R_close_33 (by assumption) (Nat.le_of_ble_eq_true rfl) (by decide) (r_newest hG hw (by omega) e2 hi) rfl ?_
    unfold pz_num at tail
    cases hx : pz_newest w k with
    | none =>
      rw [hx] at tail
      refine ax_istore_n (q := 37) B d_R_close_36 rfl (by decide) rfl ?_
      refine ax_iload_n (q := 38) B d_R_close_37 rfl rfl rfl ?_
      refine ax_if_ge (q := 45) (q2 := 41) B d_R_close_38 rfl rfl (fun h38 => ?_) (fun h38 => ?_)
      · exact absurd h38 (by decide)
      · refine ax_iconst (v := nI 1) (q := 42) B d_R_close_41 ci_1 rfl ?_
        refine ax_goto (q := 58) B d_R_close_42 rfl ?_
        refine ax_istore_n (q := 59) B d_R_close_58 rfl (by decide) rfl ?_
        exact tail 1 _ rfl
    | some p =>
      rw [hx] at tail
      have hp := (pz_newest_lt k hx).1
      have ew := (hw (16 * p + 3) (by omega)).1
      show aw_X M G 5 36 [some (.inl (some 40)), some (.inr (nI (pz_nch t 8))), none, none, none] [.inr (nI p)] h
      refine ax_istore_n (q := 37) B d_R_close_36 rfl (by decide) rfl ?_
      refine ax_iload_n (q := 38) B d_R_close_37 rfl rfl rfl ?_
      refine ax_ifN_ge (q := 45) (q2 := 41) B (by omega) d_R_close_38 rfl rfl ?_
      refine ax_aload_n (q := 46) B d_R_close_45 rfl rfl rfl ?_
      refine ax_getP (q := 49) B fl_R_7 rfl d_R_close_46 (by assumption) (by assumption) rfl ?_
      refine ax_bipush (v := nI 16) (q := 51) B d_R_close_49 cb_16 rfl ?_
      refine ax_iload_n (q := 52) B d_R_close_51 rfl rfl rfl ?_
      first | refine ax_imulN (q := 53) B d_R_close_52 rfl ?_ | refine ax_imul (q := 53) B d_R_close_52 rfl ?_
      refine ax_iconst (v := nI 3) (q := 54) B d_R_close_53 ci_3 rfl ?_
      first | refine ax_iaddN (q := 55) B d_R_close_54 rfl ?_ | refine ax_iadd (q := 55) B d_R_close_54 rfl ?_
      refine ax_ialdN (q := 56) B d_R_close_55 (by assumption) rfl (by omega) (by omega) (by first | assumption | rfl) rfl ?_
      refine ax_iconst (v := nI 1) (q := 57) B d_R_close_56 ci_1 rfl ?_
      first | refine ax_iaddN (q := 58) B d_R_close_57 rfl ?_ | refine ax_iadd (q := 58) B d_R_close_57 rfl ?_
      refine ax_istore_n (q := 59) B d_R_close_58 rfl (by decide) rfl ?_
      exact tail _ _ rfl
  refine ax_istore_n (q := 8) B d_R_close_7 rfl (by decide) rfl ?_
  refine ax_iload_n (q := 9) B d_R_close_8 rfl rfl rfl ?_
  refine ax_ifN_ne (q := 14) (q2 := 12) B (by omega) d_R_close_9 rfl rfl (fun h9 => ?_) (fun h9 => ?_)
  · refine ax_aload_n (q := 15) B d_R_close_14 rfl rfl rfl ?_
    refine ax_getN (q := 18) B fl_R_44 rfl d_R_close_15 (by assumption) (by first | assumption | rfl) rfl ?_
    refine ax_aload_n (q := 19) B d_R_close_18 rfl rfl rfl ?_
    refine ax_getN (q := 22) B fl_R_66 rfl d_R_close_19 (by assumption) (by first | assumption | rfl) rfl ?_
    refine ax_isubN (q := 23) B (by omega) d_R_close_22 rfl ?_
    refine ax_iload_n (q := 24) B d_R_close_23 rfl rfl rfl ?_
    refine ax_iconst (v := nI 1) (q := 25) B d_R_close_24 ci_1 rfl ?_
    first | refine ax_iaddN (q := 26) B d_R_close_25 rfl ?_ | refine ax_iadd (q := 26) B d_R_close_25 rfl ?_
    refine ax_icmpN_ge (q := 32) (q2 := 29) B (by omega) (by omega) d_R_close_26 rfl rfl (fun h26 => ?_) (fun h26 => ?_)
    · exact tailN (by omega)
    · rw [if_pos (by rw [hn]; omega)] at E
      refine ax_bipush (v := (-4)) (q := 31) B d_R_close_29 cb_m4 rfl ?_
      refine ax_iret B E d_R_close_31 ?_
      exact ⟨_, rfl, rfl, hS', fun q _ => rfl⟩
  · omega
