/- the law's loop -/
theorem cb_31 : (Int8.ofInt 31).toInt32 = nI 31 := by decide +kernel
def aw_SX (M : aw_M) (G : aw_G) (L : Nat) (xs : Nat → Int32) : Prop := match M with
  | (_, _, _, _, s, _, _, _, _, _, _, _, _) => va_X (aw_ad G 1000) L xs s s.heap ∧ aw_ad G 1000 < s.heap.size ∧ ¬ aw_A G (aw_ad G 1000)
section AL
variable {M : aw_M} {G : aw_G} {cc : ByteArray} {nL d pc q : Nat} {own : String} {ls : List (Option aw_V)} {st : List aw_V} {h : aw_H}
theorem ax_sld (B : aw_B M G cc nL own d) {L : Nat} {xs : Nat → Int32} (hX : aw_SX M G L xs) {i : Nat} (hd : decode cc pc = .ok (.iaload, 1)) (hi : i < L) (hL : L < 2 ^ 31) (hq : pc + 1 = q) (K : aw_X M G nL q ls (.inr (xs i) :: st) h) : aw_X M G nL pc ls (.inr (nI i) :: .inl (some 1000) :: st) h := by
  obtain ⟨p, l, e, R, s, m, args, below, meth, c, cells, slots, Q⟩ := M
  subst hq
  intro H locs la hP hS hl
  have h9 := K H locs la hP hS hl
  refine va_sld B.1 B.2.1 hX.1 hX.2.1 hX.2.2 hS (vp_in_nI hi hL) hd ?_
  rw [nI_clamp (by omega)]
  exact h9
theorem ax_slen (B : aw_B M G cc nL own d) {L : Nat} {xs : Nat → Int32} (hX : aw_SX M G L xs) (hd : decode cc pc = .ok (.arraylength, 1)) (hq : pc + 1 = q) (K : aw_X M G nL q ls (.inr (nI L) :: st) h) : aw_X M G nL pc ls (.inl (some 1000) :: st) h := by
  obtain ⟨p, l, e, R, s, m, args, below, meth, c, cells, slots, Q⟩ := M
  subst hq
  intro H locs la hP hS hl
  exact va_slen B.1 B.2.1 hX.1 hX.2.1 hX.2.2 hS hd (K H locs la hP hS hl)
theorem ax_tin (B : aw_B M G cc nL own d) {x : Int32} {dflt lo hi : Int} {offs : Array Int} {len : Nat} {off : Int} (hd : decode cc pc = .ok (.tableswitch dflt lo hi offs, len)) (h1 : ¬ x.toInt < lo) (h2 : ¬ hi < x.toInt) (ho : offs[(x.toInt - lo).toNat]? = some off) (ht : (pc : Int) + off = (q : Int)) (K : aw_X M G nL q ls st h) : aw_X M G nL pc ls (.inr x :: st) h := by
  obtain ⟨p, l, e, R, s, m, args, below, meth, c, cells, slots, Q⟩ := M
  intro H locs la hP hS hl
  exact lv_tableIn B.1 B.2.1 hd h1 h2 ho ht (K H locs la hP hS hl)
theorem ax_tout (B : aw_B M G cc nL own d) {x : Int32} {dflt lo hi : Int} {offs : Array Int} {len : Nat} (hd : decode cc pc = .ok (.tableswitch dflt lo hi offs, len)) (h1 : x.toInt < lo ∨ hi < x.toInt) (ht : (pc : Int) + dflt = (q : Int)) (K : aw_X M G nL q ls st h) : aw_X M G nL pc ls (.inr x :: st) h := by
  obtain ⟨p, l, e, R, s, m, args, below, meth, c, cells, slots, Q⟩ := M
  intro H locs la hP hS hl
  exact lv_tableOut B.1 B.2.1 hd h1 ht (K H locs la hP hS hl)
end AL
theorem cz.kept {G : aw_G} {S : pz_S} {h h' : aw_H} (hS : cz G S h) (e : ∀ q, q < 40 → h' q = h q) : cz G S h' := ⟨hS.1, hS.2.1.kept (e 1 (by omega)) (e 2 (by omega)) (e 3 (by omega)), hS.2.2.kept (fun q q1 q2 => e q (by omega))⟩
theorem law_make {M : aw_M} {G : aw_G} (hG : gr G) (B : aw_B M G code 4 "SessionTablesLaw" 9) {L : Nat} {xs : Nat → Int32} (hX : aw_SX M G L xs) (hL : L ≤ 2561) {i : Nat} (hiL : i + 5 ≤ L) {S : pz_S} {h : aw_H} (hI : pz_inv S) (hC : cz G S h) (hQ : qz G S h) (next : ∀ S' h', pz_inv S' → cz G S' h' → qz G S' h' → aw_X M G 4 651 [some (.inl (some 1000)), some (.inl (some 0)), some (.inl (some 40)), some (.inr (nI i))] [] h') : aw_X M G 4 124 [some (.inl (some 1000)), some (.inl (some 0)), some (.inl (some 40)), some (.inr (nI i))] [] h := by
  have i0 := hG.1.is0
  have i40 := hG.i40
  obtain ⟨b, hb⟩ : ∃ b : Bool, b = decide (xs (i + 3) ≠ 0) := ⟨_, rfl⟩
  have second : ∀ (h1 : aw_H), cz G (pz_make S (xs (i + 1)) (xs (i + 2)) b).2 h1 → qz G S h1 → aw_X M G 4 151 [some (.inl (some 1000)), some (.inl (some 0)), some (.inl (some 40)), some (.inr (nI i))] [.inr (pz_make S (xs (i + 1)) (xs (i + 2)) b).1] h1 := by
    intro h1 hC1 hQ1
    have call : aw_X M G 4 175 [some (.inl (some 1000)), some (.inl (some 0)), some (.inl (some 40)), some (.inr (nI i))] [.inr (bI b), .inr (xs (i + 2)), .inr (xs (i + 1)), .inl (some 40), .inr (pz_make S (xs (i + 1)) (xs (i + 2)) b).1] h1 := by
      refine ax_gV3 (q := 178) B cv_L_25 d_L_law_175 (by assumption) (Nat.le_of_ble_eq_true rfl) (by decide) (q_make hG hQ1 hI _ _ _) rfl (fun v h2 hv => ?_)
      obtain ⟨rfl, hQ2, hf2⟩ := hv
      exact ax_icmp_eq (q := 651) (q2 := 181) B d_L_law_178 rfl rfl (fun _ => next _ _ (inv_make hI _ _ _) (hC1.kept hf2) hQ2) (fun z => absurd rfl z)
    refine ax_aload_n (q := 152) B d_L_law_151 rfl rfl rfl ?_
    refine ax_aload_n (q := 153) B d_L_law_152 rfl rfl rfl ?_
    refine ax_iload_n (q := 154) B d_L_law_153 rfl rfl rfl ?_
    refine ax_iconst (v := nI 1) (q := 155) B d_L_law_154 ci_1 rfl ?_
    first | refine ax_iaddN (q := 156) B d_L_law_155 rfl ?_ | refine ax_iadd (q := 156) B d_L_law_155 rfl ?_
    refine ax_sld (q := 157) B hX d_L_law_156 (by omega) (by omega) rfl ?_
    refine ax_aload_n (q := 158) B d_L_law_157 rfl rfl rfl ?_
    refine ax_iload_n (q := 159) B d_L_law_158 rfl rfl rfl ?_
    refine ax_iconst (v := nI 2) (q := 160) B d_L_law_159 ci_2 rfl ?_
    first | refine ax_iaddN (q := 161) B d_L_law_160 rfl ?_ | refine ax_iadd (q := 161) B d_L_law_160 rfl ?_
    refine ax_sld (q := 162) B hX d_L_law_161 (by omega) (by omega) rfl ?_
    refine ax_aload_n (q := 163) B d_L_law_162 rfl rfl rfl ?_
    refine ax_iload_n (q := 164) B d_L_law_163 rfl rfl rfl ?_
    refine ax_iconst (v := nI 3) (q := 165) B d_L_law_164 ci_3 rfl ?_
    first | refine ax_iaddN (q := 166) B d_L_law_165 rfl ?_ | refine ax_iadd (q := 166) B d_L_law_165 rfl ?_
    refine ax_sld (q := 167) B hX d_L_law_166 (by omega) (by omega) rfl ?_
    refine ax_if_eq (q := 174) (q2 := 170) B d_L_law_167 rfl rfl (fun h167 => ?_) (fun h167 => ?_)
    · refine ax_iconst (v := nI 0) (q := 175) B d_L_law_174 ci_0 rfl ?_
      first | exact ax_top (show nI 0 = bI b by rw [hb, decide_eq_false (fun z => z h167)]; rfl) call | exact ax_top (show nI 1 = bI b by rw [hb, decide_eq_true h167]; rfl) call
    · refine ax_iconst (v := nI 1) (q := 171) B d_L_law_170 ci_1 rfl ?_
      refine ax_goto (q := 175) B d_L_law_171 rfl ?_
      first | exact ax_top (show nI 0 = bI b by rw [hb, decide_eq_false (fun z => z h167)]; rfl) call | exact ax_top (show nI 1 = bI b by rw [hb, decide_eq_true h167]; rfl) call
  have first_ : aw_X M G 4 148 [some (.inl (some 1000)), some (.inl (some 0)), some (.inl (some 40)), some (.inr (nI i))] [.inr (bI b), .inr (xs (i + 2)), .inr (xs (i + 1)), .inl (some 0)] h := by
    refine ax_gV3 (q := 151) B cv_L_21 d_L_law_148 (by assumption) (Nat.le_of_ble_eq_true rfl) (by decide) (p_make hG.1 hC hI _ _ _) rfl (fun v h1 hv => ?_)
    obtain ⟨rfl, hC1, hf1⟩ := hv
    exact second h1 hC1 (hQ.kept (fun q q1 q2 => hf1 q (by omega)))
  refine ax_aload_n (q := 125) B d_L_law_124 rfl rfl rfl ?_
  refine ax_aload_n (q := 126) B d_L_law_125 rfl rfl rfl ?_
  refine ax_iload_n (q := 127) B d_L_law_126 rfl rfl rfl ?_
  refine ax_iconst (v := nI 1) (q := 128) B d_L_law_127 ci_1 rfl ?_
  first | refine ax_iaddN (q := 129) B d_L_law_128 rfl ?_ | refine ax_iadd (q := 129) B d_L_law_128 rfl ?_
  refine ax_sld (q := 130) B hX d_L_law_129 (by omega) (by omega) rfl ?_
  refine ax_aload_n (q := 131) B d_L_law_130 rfl rfl rfl ?_
  refine ax_iload_n (q := 132) B d_L_law_131 rfl rfl rfl ?_
  refine ax_iconst (v := nI 2) (q := 133) B d_L_law_132 ci_2 rfl ?_
  first | refine ax_iaddN (q := 134) B d_L_law_133 rfl ?_ | refine ax_iadd (q := 134) B d_L_law_133 rfl ?_
  refine ax_sld (q := 135) B hX d_L_law_134 (by omega) (by omega) rfl ?_
  refine ax_aload_n (q := 136) B d_L_law_135 rfl rfl rfl ?_
  refine ax_iload_n (q := 137) B d_L_law_136 rfl rfl rfl ?_
  refine ax_iconst (v := nI 3) (q := 138) B d_L_law_137 ci_3 rfl ?_
  first | refine ax_iaddN (q := 139) B d_L_law_138 rfl ?_ | refine ax_iadd (q := 139) B d_L_law_138 rfl ?_
  refine ax_sld (q := 140) B hX d_L_law_139 (by omega) (by omega) rfl ?_
  refine ax_if_eq (q := 147) (q2 := 143) B d_L_law_140 rfl rfl (fun h140 => ?_) (fun h140 => ?_)
  · refine ax_iconst (v := nI 0) (q := 148) B d_L_law_147 ci_0 rfl ?_
    first | exact ax_top (show nI 0 = bI b by rw [hb, decide_eq_false (fun z => z h140)]; rfl) first_ | exact ax_top (show nI 1 = bI b by rw [hb, decide_eq_true h140]; rfl) first_
  · refine ax_iconst (v := nI 1) (q := 144) B d_L_law_143 ci_1 rfl ?_
    refine ax_goto (q := 148) B d_L_law_144 rfl ?_
    first | exact ax_top (show nI 0 = bI b by rw [hb, decide_eq_false (fun z => z h140)]; rfl) first_ | exact ax_top (show nI 1 = bI b by rw [hb, decide_eq_true h140]; rfl) first_
theorem law_write {M : aw_M} {G : aw_G} (hG : gr G) (B : aw_B M G code 4 "SessionTablesLaw" 9) {L : Nat} {xs : Nat → Int32} (hX : aw_SX M G L xs) (hL : L ≤ 2561) {i : Nat} (hiL : i + 5 ≤ L) {S : pz_S} {h : aw_H} (hI : pz_inv S) (hC : cz G S h) (hQ : qz G S h) (next : ∀ S' h', pz_inv S' → cz G S' h' → qz G S' h' → aw_X M G 4 651 [some (.inl (some 1000)), some (.inl (some 0)), some (.inl (some 40)), some (.inr (nI i))] [] h') : aw_X M G 4 183 [some (.inl (some 1000)), some (.inl (some 0)), some (.inl (some 40)), some (.inr (nI i))] [] h := by
  have i0 := hG.1.is0
  have i40 := hG.i40
  refine ax_aload_n (q := 184) B d_L_law_183 rfl rfl rfl ?_
  refine ax_aload_n (q := 185) B d_L_law_184 rfl rfl rfl ?_
  refine ax_iload_n (q := 186) B d_L_law_185 rfl rfl rfl ?_
  refine ax_iconst (v := nI 1) (q := 187) B d_L_law_186 ci_1 rfl ?_
  first | refine ax_iaddN (q := 188) B d_L_law_187 rfl ?_ | refine ax_iadd (q := 188) B d_L_law_187 rfl ?_
  refine ax_sld (q := 189) B hX d_L_law_188 (by omega) (by omega) rfl ?_
  refine ax_aload_n (q := 190) B d_L_law_189 rfl rfl rfl ?_
  refine ax_iload_n (q := 191) B d_L_law_190 rfl rfl rfl ?_
  refine ax_iconst (v := nI 2) (q := 192) B d_L_law_191 ci_2 rfl ?_
  first | refine ax_iaddN (q := 193) B d_L_law_192 rfl ?_ | refine ax_iadd (q := 193) B d_L_law_192 rfl ?_
  refine ax_sld (q := 194) B hX d_L_law_193 (by omega) (by omega) rfl ?_
  refine ax_aload_n (q := 195) B d_L_law_194 rfl rfl rfl ?_
  refine ax_iload_n (q := 196) B d_L_law_195 rfl rfl rfl ?_
  refine ax_iconst (v := nI 3) (q := 197) B d_L_law_196 ci_3 rfl ?_
  first | refine ax_iaddN (q := 198) B d_L_law_197 rfl ?_ | refine ax_iadd (q := 198) B d_L_law_197 rfl ?_
  refine ax_sld (q := 199) B hX d_L_law_198 (by omega) (by omega) rfl ?_
  refine ax_gV3 (q := 202) B cv_L_26 d_L_law_199 (by assumption) (Nat.le_of_ble_eq_true rfl) (by decide) (p_write hG.1 hC hI _ _ _) rfl (fun v h1 hv => ?_)
  obtain ⟨rfl, hC1, hf1⟩ := hv
  have hQ1 : qz G S h1 := hQ.kept (fun q q1 q2 => hf1 q (by omega))
  refine ax_aload_n (q := 203) B d_L_law_202 rfl rfl rfl ?_
  refine ax_aload_n (q := 204) B d_L_law_203 rfl rfl rfl ?_
  refine ax_iload_n (q := 205) B d_L_law_204 rfl rfl rfl ?_
  refine ax_iconst (v := nI 1) (q := 206) B d_L_law_205 ci_1 rfl ?_
  first | refine ax_iaddN (q := 207) B d_L_law_206 rfl ?_ | refine ax_iadd (q := 207) B d_L_law_206 rfl ?_
  refine ax_sld (q := 208) B hX d_L_law_207 (by omega) (by omega) rfl ?_
  refine ax_aload_n (q := 209) B d_L_law_208 rfl rfl rfl ?_
  refine ax_iload_n (q := 210) B d_L_law_209 rfl rfl rfl ?_
  refine ax_iconst (v := nI 2) (q := 211) B d_L_law_210 ci_2 rfl ?_
  first | refine ax_iaddN (q := 212) B d_L_law_211 rfl ?_ | refine ax_iadd (q := 212) B d_L_law_211 rfl ?_
  refine ax_sld (q := 213) B hX d_L_law_212 (by omega) (by omega) rfl ?_
  refine ax_aload_n (q := 214) B d_L_law_213 rfl rfl rfl ?_
  refine ax_iload_n (q := 215) B d_L_law_214 rfl rfl rfl ?_
  refine ax_iconst (v := nI 3) (q := 216) B d_L_law_215 ci_3 rfl ?_
  first | refine ax_iaddN (q := 217) B d_L_law_216 rfl ?_ | refine ax_iadd (q := 217) B d_L_law_216 rfl ?_
  refine ax_sld (q := 218) B hX d_L_law_217 (by omega) (by omega) rfl ?_
  refine ax_gV3 (q := 221) B cv_L_30 d_L_law_218 (by assumption) (Nat.le_of_ble_eq_true rfl) (by decide) (q_write hG hQ1 hI _ _ _) rfl (fun v h2 hv => ?_)
  obtain ⟨rfl, hQ2, hf2⟩ := hv
  exact ax_icmp_eq (q := 651) (q2 := 224) B d_L_law_221 rfl rfl (fun _ => next _ _ (inv_write hI _ _ _) (hC1.kept hf2) hQ2) (fun z => absurd rfl z)
theorem law_remove {M : aw_M} {G : aw_G} (hG : gr G) (B : aw_B M G code 4 "SessionTablesLaw" 9) {L : Nat} {xs : Nat → Int32} (hX : aw_SX M G L xs) (hL : L ≤ 2561) {i : Nat} (hiL : i + 5 ≤ L) {S : pz_S} {h : aw_H} (hI : pz_inv S) (hC : cz G S h) (hQ : qz G S h) (next : ∀ S' h', pz_inv S' → cz G S' h' → qz G S' h' → aw_X M G 4 651 [some (.inl (some 1000)), some (.inl (some 0)), some (.inl (some 40)), some (.inr (nI i))] [] h') : aw_X M G 4 226 [some (.inl (some 1000)), some (.inl (some 0)), some (.inl (some 40)), some (.inr (nI i))] [] h := by
  have i0 := hG.1.is0
  have i40 := hG.i40
  refine ax_aload_n (q := 227) B d_L_law_226 rfl rfl rfl ?_
  refine ax_aload_n (q := 228) B d_L_law_227 rfl rfl rfl ?_
  refine ax_iload_n (q := 229) B d_L_law_228 rfl rfl rfl ?_
  refine ax_iconst (v := nI 1) (q := 230) B d_L_law_229 ci_1 rfl ?_
  first | refine ax_iaddN (q := 231) B d_L_law_230 rfl ?_ | refine ax_iadd (q := 231) B d_L_law_230 rfl ?_
  refine ax_sld (q := 232) B hX d_L_law_231 (by omega) (by omega) rfl ?_
  refine ax_aload_n (q := 233) B d_L_law_232 rfl rfl rfl ?_
  refine ax_iload_n (q := 234) B d_L_law_233 rfl rfl rfl ?_
  refine ax_iconst (v := nI 2) (q := 235) B d_L_law_234 ci_2 rfl ?_
  first | refine ax_iaddN (q := 236) B d_L_law_235 rfl ?_ | refine ax_iadd (q := 236) B d_L_law_235 rfl ?_
  refine ax_sld (q := 237) B hX d_L_law_236 (by omega) (by omega) rfl ?_
  refine ax_gV2 (q := 240) B cv_L_31 d_L_law_237 (by assumption) (Nat.le_of_ble_eq_true rfl) (by decide) (p_remove hG.1 hC hI _ _) rfl (fun v h1 hv => ?_)
  obtain ⟨rfl, hC1, hf1⟩ := hv
  have hQ1 : qz G S h1 := hQ.kept (fun q q1 q2 => hf1 q (by omega))
  refine ax_aload_n (q := 241) B d_L_law_240 rfl rfl rfl ?_
  refine ax_aload_n (q := 242) B d_L_law_241 rfl rfl rfl ?_
  refine ax_iload_n (q := 243) B d_L_law_242 rfl rfl rfl ?_
  refine ax_iconst (v := nI 1) (q := 244) B d_L_law_243 ci_1 rfl ?_
  first | refine ax_iaddN (q := 245) B d_L_law_244 rfl ?_ | refine ax_iadd (q := 245) B d_L_law_244 rfl ?_
  refine ax_sld (q := 246) B hX d_L_law_245 (by omega) (by omega) rfl ?_
  refine ax_aload_n (q := 247) B d_L_law_246 rfl rfl rfl ?_
  refine ax_iload_n (q := 248) B d_L_law_247 rfl rfl rfl ?_
  refine ax_iconst (v := nI 2) (q := 249) B d_L_law_248 ci_2 rfl ?_
  first | refine ax_iaddN (q := 250) B d_L_law_249 rfl ?_ | refine ax_iadd (q := 250) B d_L_law_249 rfl ?_
  refine ax_sld (q := 251) B hX d_L_law_250 (by omega) (by omega) rfl ?_
  refine ax_gV2 (q := 254) B cv_L_35 d_L_law_251 (by assumption) (Nat.le_of_ble_eq_true rfl) (by decide) (q_remove hG hQ1 hI _ _) rfl (fun v h2 hv => ?_)
  obtain ⟨rfl, hQ2, hf2⟩ := hv
  exact ax_icmp_eq (q := 651) (q2 := 257) B d_L_law_254 rfl rfl (fun _ => next _ _ (inv_remove hI _ _) (hC1.kept hf2) hQ2) (fun z => absurd rfl z)
theorem law_move {M : aw_M} {G : aw_G} (hG : gr G) (B : aw_B M G code 4 "SessionTablesLaw" 9) {L : Nat} {xs : Nat → Int32} (hX : aw_SX M G L xs) (hL : L ≤ 2561) {i : Nat} (hiL : i + 5 ≤ L) {S : pz_S} {h : aw_H} (hI : pz_inv S) (hC : cz G S h) (hQ : qz G S h) (next : ∀ S' h', pz_inv S' → cz G S' h' → qz G S' h' → aw_X M G 4 651 [some (.inl (some 1000)), some (.inl (some 0)), some (.inl (some 40)), some (.inr (nI i))] [] h') : aw_X M G 4 259 [some (.inl (some 1000)), some (.inl (some 0)), some (.inl (some 40)), some (.inr (nI i))] [] h := by
  have i0 := hG.1.is0
  have i40 := hG.i40
  refine ax_aload_n (q := 260) B d_L_law_259 rfl rfl rfl ?_
  refine ax_aload_n (q := 261) B d_L_law_260 rfl rfl rfl ?_
  refine ax_iload_n (q := 262) B d_L_law_261 rfl rfl rfl ?_
  refine ax_iconst (v := nI 1) (q := 263) B d_L_law_262 ci_1 rfl ?_
  first | refine ax_iaddN (q := 264) B d_L_law_263 rfl ?_ | refine ax_iadd (q := 264) B d_L_law_263 rfl ?_
  refine ax_sld (q := 265) B hX d_L_law_264 (by omega) (by omega) rfl ?_
  refine ax_aload_n (q := 266) B d_L_law_265 rfl rfl rfl ?_
  refine ax_iload_n (q := 267) B d_L_law_266 rfl rfl rfl ?_
  refine ax_iconst (v := nI 2) (q := 268) B d_L_law_267 ci_2 rfl ?_
  first | refine ax_iaddN (q := 269) B d_L_law_268 rfl ?_ | refine ax_iadd (q := 269) B d_L_law_268 rfl ?_
  refine ax_sld (q := 270) B hX d_L_law_269 (by omega) (by omega) rfl ?_
  refine ax_aload_n (q := 271) B d_L_law_270 rfl rfl rfl ?_
  refine ax_iload_n (q := 272) B d_L_law_271 rfl rfl rfl ?_
  refine ax_iconst (v := nI 3) (q := 273) B d_L_law_272 ci_3 rfl ?_
  first | refine ax_iaddN (q := 274) B d_L_law_273 rfl ?_ | refine ax_iadd (q := 274) B d_L_law_273 rfl ?_
  refine ax_sld (q := 275) B hX d_L_law_274 (by omega) (by omega) rfl ?_
  refine ax_aload_n (q := 276) B d_L_law_275 rfl rfl rfl ?_
  refine ax_iload_n (q := 277) B d_L_law_276 rfl rfl rfl ?_
  refine ax_iconst (v := nI 4) (q := 278) B d_L_law_277 ci_4 rfl ?_
  first | refine ax_iaddN (q := 279) B d_L_law_278 rfl ?_ | refine ax_iadd (q := 279) B d_L_law_278 rfl ?_
  refine ax_sld (q := 280) B hX d_L_law_279 (by omega) (by omega) rfl ?_
  refine ax_gV4 (q := 283) B cv_L_36 d_L_law_280 (by assumption) (Nat.le_of_ble_eq_true rfl) (by decide) (p_move hG.1 hC hI _ _ _ _) rfl (fun v h1 hv => ?_)
  obtain ⟨rfl, hC1, hf1⟩ := hv
  have hQ1 : qz G S h1 := hQ.kept (fun q q1 q2 => hf1 q (by omega))
  refine ax_aload_n (q := 284) B d_L_law_283 rfl rfl rfl ?_
  refine ax_aload_n (q := 285) B d_L_law_284 rfl rfl rfl ?_
  refine ax_iload_n (q := 286) B d_L_law_285 rfl rfl rfl ?_
  refine ax_iconst (v := nI 1) (q := 287) B d_L_law_286 ci_1 rfl ?_
  first | refine ax_iaddN (q := 288) B d_L_law_287 rfl ?_ | refine ax_iadd (q := 288) B d_L_law_287 rfl ?_
  refine ax_sld (q := 289) B hX d_L_law_288 (by omega) (by omega) rfl ?_
  refine ax_aload_n (q := 290) B d_L_law_289 rfl rfl rfl ?_
  refine ax_iload_n (q := 291) B d_L_law_290 rfl rfl rfl ?_
  refine ax_iconst (v := nI 2) (q := 292) B d_L_law_291 ci_2 rfl ?_
  first | refine ax_iaddN (q := 293) B d_L_law_292 rfl ?_ | refine ax_iadd (q := 293) B d_L_law_292 rfl ?_
  refine ax_sld (q := 294) B hX d_L_law_293 (by omega) (by omega) rfl ?_
  refine ax_aload_n (q := 295) B d_L_law_294 rfl rfl rfl ?_
  refine ax_iload_n (q := 296) B d_L_law_295 rfl rfl rfl ?_
  refine ax_iconst (v := nI 3) (q := 297) B d_L_law_296 ci_3 rfl ?_
  first | refine ax_iaddN (q := 298) B d_L_law_297 rfl ?_ | refine ax_iadd (q := 298) B d_L_law_297 rfl ?_
  refine ax_sld (q := 299) B hX d_L_law_298 (by omega) (by omega) rfl ?_
  refine ax_aload_n (q := 300) B d_L_law_299 rfl rfl rfl ?_
  refine ax_iload_n (q := 301) B d_L_law_300 rfl rfl rfl ?_
  refine ax_iconst (v := nI 4) (q := 302) B d_L_law_301 ci_4 rfl ?_
  first | refine ax_iaddN (q := 303) B d_L_law_302 rfl ?_ | refine ax_iadd (q := 303) B d_L_law_302 rfl ?_
  refine ax_sld (q := 304) B hX d_L_law_303 (by omega) (by omega) rfl ?_
  refine ax_gV4 (q := 307) B cv_L_40 d_L_law_304 (by assumption) (Nat.le_of_ble_eq_true rfl) (by decide) (q_move hG hQ1 hI _ _ _ _) rfl (fun v h2 hv => ?_)
  obtain ⟨rfl, hQ2, hf2⟩ := hv
  exact ax_icmp_eq (q := 651) (q2 := 310) B d_L_law_307 rfl rfl (fun _ => next _ _ (inv_move hI _ _ _ _) (hC1.kept hf2) hQ2) (fun z => absurd rfl z)
theorem law_close {M : aw_M} {G : aw_G} (hG : gr G) (B : aw_B M G code 4 "SessionTablesLaw" 9) {L : Nat} {xs : Nat → Int32} (hX : aw_SX M G L xs) (hL : L ≤ 2561) {i : Nat} (hiL : i + 5 ≤ L) {S : pz_S} {h : aw_H} (hI : pz_inv S) (hC : cz G S h) (hQ : qz G S h) (next : ∀ S' h', pz_inv S' → cz G S' h' → qz G S' h' → aw_X M G 4 651 [some (.inl (some 1000)), some (.inl (some 0)), some (.inl (some 40)), some (.inr (nI i))] [] h') : aw_X M G 4 312 [some (.inl (some 1000)), some (.inl (some 0)), some (.inl (some 40)), some (.inr (nI i))] [] h := by
  have i0 := hG.1.is0
  have i40 := hG.i40
  refine ax_aload_n (q := 313) B d_L_law_312 rfl rfl rfl ?_
  refine ax_gV0 (q := 316) B cv_L_41 d_L_law_313 (by assumption) (Nat.le_of_ble_eq_true rfl) (by decide) (p_close hG.1 hC hI) rfl (fun v h1 hv => ?_)
  obtain ⟨rfl, hC1, hf1⟩ := hv
  have hQ1 : qz G S h1 := hQ.kept (fun q q1 q2 => hf1 q (by omega))
  refine ax_aload_n (q := 317) B d_L_law_316 rfl rfl rfl ?_
  refine ax_gV0 (q := 320) B cv_L_45 d_L_law_317 (by assumption) (Nat.le_of_ble_eq_true rfl) (by decide) (q_close hG hQ1 hI) rfl (fun v h2 hv => ?_)
  obtain ⟨rfl, hQ2, hf2⟩ := hv
  exact ax_icmp_eq (q := 651) (q2 := 323) B d_L_law_320 rfl rfl (fun _ => next _ _ (inv_close hI) (hC1.kept hf2) hQ2) (fun z => absurd rfl z)
theorem law_arm {M : aw_M} {G : aw_G} (hG : gr G) (B : aw_B M G code 4 "SessionTablesLaw" 9) {L : Nat} {xs : Nat → Int32} (hX : aw_SX M G L xs) (hL : L ≤ 2561) {i : Nat} (hiL : i + 5 ≤ L) {S : pz_S} {h : aw_H} (hI : pz_inv S) (hC : cz G S h) (hQ : qz G S h) (next : ∀ S' h', pz_inv S' → cz G S' h' → qz G S' h' → aw_X M G 4 651 [some (.inl (some 1000)), some (.inl (some 0)), some (.inl (some 40)), some (.inr (nI i))] [] h') : aw_X M G 4 325 [some (.inl (some 1000)), some (.inl (some 0)), some (.inl (some 40)), some (.inr (nI i))] [] h := by
  have i0 := hG.1.is0
  have i40 := hG.i40
  refine ax_aload_n (q := 326) B d_L_law_325 rfl rfl rfl ?_
  refine ax_aload_n (q := 327) B d_L_law_326 rfl rfl rfl ?_
  refine ax_iload_n (q := 328) B d_L_law_327 rfl rfl rfl ?_
  refine ax_iconst (v := nI 1) (q := 329) B d_L_law_328 ci_1 rfl ?_
  first | refine ax_iaddN (q := 330) B d_L_law_329 rfl ?_ | refine ax_iadd (q := 330) B d_L_law_329 rfl ?_
  refine ax_sld (q := 331) B hX d_L_law_330 (by omega) (by omega) rfl ?_
  refine ax_gV1 (q := 334) B cv_L_46 d_L_law_331 (by assumption) (Nat.le_of_ble_eq_true rfl) (by decide) (p_arm hG.1 hC _) rfl (fun v h1 hv => ?_)
  obtain ⟨rfl, hC1, hf1⟩ := hv
  have hQ1 : qz G S h1 := hQ.kept (fun q q1 q2 => hf1 q (by omega))
  refine ax_aload_n (q := 335) B d_L_law_334 rfl rfl rfl ?_
  refine ax_aload_n (q := 336) B d_L_law_335 rfl rfl rfl ?_
  refine ax_iload_n (q := 337) B d_L_law_336 rfl rfl rfl ?_
  refine ax_iconst (v := nI 1) (q := 338) B d_L_law_337 ci_1 rfl ?_
  first | refine ax_iaddN (q := 339) B d_L_law_338 rfl ?_ | refine ax_iadd (q := 339) B d_L_law_338 rfl ?_
  refine ax_sld (q := 340) B hX d_L_law_339 (by omega) (by omega) rfl ?_
  refine ax_gV1 (q := 343) B cv_L_50 d_L_law_340 (by assumption) (Nat.le_of_ble_eq_true rfl) (by decide) (q_arm hG hQ1 _) rfl (fun v h2 hv => ?_)
  obtain ⟨rfl, hQ2, hf2⟩ := hv
  exact ax_icmp_eq (q := 651) (q2 := 346) B d_L_law_343 rfl rfl (fun _ => next _ _ (inv_arm hI _) (hC1.kept hf2) hQ2) (fun z => absurd rfl z)
theorem law_crash {M : aw_M} {G : aw_G} (hG : gr G) (B : aw_B M G code 4 "SessionTablesLaw" 9) {L : Nat} {xs : Nat → Int32} (hX : aw_SX M G L xs) (hL : L ≤ 2561) {i : Nat} (hiL : i + 5 ≤ L) {S : pz_S} {h : aw_H} (hI : pz_inv S) (hC : cz G S h) (hQ : qz G S h) (next : ∀ S' h', pz_inv S' → cz G S' h' → qz G S' h' → aw_X M G 4 651 [some (.inl (some 1000)), some (.inl (some 0)), some (.inl (some 40)), some (.inr (nI i))] [] h') : aw_X M G 4 348 [some (.inl (some 1000)), some (.inl (some 0)), some (.inl (some 40)), some (.inr (nI i))] [] h := by
  have i0 := hG.1.is0
  have i40 := hG.i40
  refine ax_aload_n (q := 349) B d_L_law_348 rfl rfl rfl ?_
  refine ax_gV0 (q := 352) B cv_L_51 d_L_law_349 (by assumption) (Nat.le_of_ble_eq_true rfl) (by decide) (p_crash hG.1 hC hI) rfl (fun v h1 hv => ?_)
  obtain ⟨rfl, hC1, hf1⟩ := hv
  have hQ1 : qz G S h1 := hQ.kept (fun q q1 q2 => hf1 q (by omega))
  refine ax_aload_n (q := 353) B d_L_law_352 rfl rfl rfl ?_
  refine ax_gV0 (q := 356) B cv_L_54 d_L_law_353 (by assumption) (Nat.le_of_ble_eq_true rfl) (by decide) (q_crash hG hQ1 hI) rfl (fun v h2 hv => ?_)
  obtain ⟨rfl, hQ2, hf2⟩ := hv
  exact ax_icmp_eq (q := 651) (q2 := 359) B d_L_law_356 rfl rfl (fun _ => next _ _ (inv_crash hI) (hC1.kept hf2) hQ2) (fun z => absurd rfl z)
theorem law_spoil {M : aw_M} {G : aw_G} (hG : gr G) (B : aw_B M G code 4 "SessionTablesLaw" 9) {L : Nat} {xs : Nat → Int32} (hX : aw_SX M G L xs) (hL : L ≤ 2561) {i : Nat} (hiL : i + 5 ≤ L) {S : pz_S} {h : aw_H} (hI : pz_inv S) (hC : cz G S h) (hQ : qz G S h) (next : ∀ S' h', pz_inv S' → cz G S' h' → qz G S' h' → aw_X M G 4 651 [some (.inl (some 1000)), some (.inl (some 0)), some (.inl (some 40)), some (.inr (nI i))] [] h') : aw_X M G 4 361 [some (.inl (some 1000)), some (.inl (some 0)), some (.inl (some 40)), some (.inr (nI i))] [] h := by
  have i0 := hG.1.is0
  have i40 := hG.i40
  refine ax_aload_n (q := 362) B d_L_law_361 rfl rfl rfl ?_
  refine ax_aload_n (q := 363) B d_L_law_362 rfl rfl rfl ?_
  refine ax_iload_n (q := 364) B d_L_law_363 rfl rfl rfl ?_
  refine ax_iconst (v := nI 1) (q := 365) B d_L_law_364 ci_1 rfl ?_
  first | refine ax_iaddN (q := 366) B d_L_law_365 rfl ?_ | refine ax_iadd (q := 366) B d_L_law_365 rfl ?_
  refine ax_sld (q := 367) B hX d_L_law_366 (by omega) (by omega) rfl ?_
  refine ax_gV1 (q := 370) B cv_L_55 d_L_law_367 (by assumption) (Nat.le_of_ble_eq_true rfl) (by decide) (p_spoil hG.1 hC _) rfl (fun v h1 hv => ?_)
  obtain ⟨rfl, hC1, hf1⟩ := hv
  have hQ1 : qz G S h1 := hQ.kept (fun q q1 q2 => hf1 q (by omega))
  refine ax_aload_n (q := 371) B d_L_law_370 rfl rfl rfl ?_
  refine ax_aload_n (q := 372) B d_L_law_371 rfl rfl rfl ?_
  refine ax_iload_n (q := 373) B d_L_law_372 rfl rfl rfl ?_
  refine ax_iconst (v := nI 1) (q := 374) B d_L_law_373 ci_1 rfl ?_
  first | refine ax_iaddN (q := 375) B d_L_law_374 rfl ?_ | refine ax_iadd (q := 375) B d_L_law_374 rfl ?_
  refine ax_sld (q := 376) B hX d_L_law_375 (by omega) (by omega) rfl ?_
  refine ax_gV1 (q := 379) B cv_L_58 d_L_law_376 (by assumption) (Nat.le_of_ble_eq_true rfl) (by decide) (q_spoil hG hQ1 _) rfl (fun v h2 hv => ?_)
  obtain ⟨rfl, hQ2, hf2⟩ := hv
  exact ax_icmp_eq (q := 651) (q2 := 382) B d_L_law_379 rfl rfl (fun _ => next _ _ (inv_spoil hI _) (hC1.kept hf2) hQ2) (fun z => absurd rfl z)
theorem law_left {M : aw_M} {G : aw_G} (hG : gr G) (B : aw_B M G code 4 "SessionTablesLaw" 9) {L : Nat} {xs : Nat → Int32} (hX : aw_SX M G L xs) (hL : L ≤ 2561) {i : Nat} (hiL : i + 5 ≤ L) {S : pz_S} {h : aw_H} (hI : pz_inv S) (hC : cz G S h) (hQ : qz G S h) (next : ∀ S' h', pz_inv S' → cz G S' h' → qz G S' h' → aw_X M G 4 651 [some (.inl (some 1000)), some (.inl (some 0)), some (.inl (some 40)), some (.inr (nI i))] [] h') : aw_X M G 4 384 [some (.inl (some 1000)), some (.inl (some 0)), some (.inl (some 40)), some (.inr (nI i))] [] h := by
  have i0 := hG.1.is0
  have i40 := hG.i40
  refine ax_aload_n (q := 385) B d_L_law_384 rfl rfl rfl ?_
  refine ax_qV0 (q := 388) B cv_L_59 d_L_law_385 (by assumption) (Nat.le_of_ble_eq_true rfl) (by decide) (p_left hG.1 hC) rfl ?_
  refine ax_aload_n (q := 389) B d_L_law_388 rfl rfl rfl ?_
  refine ax_qV0 (q := 392) B cv_L_62 d_L_law_389 (by assumption) (Nat.le_of_ble_eq_true rfl) (by decide) (q_left hG hQ) rfl ?_
  exact ax_icmp_eq (q := 651) (q2 := 395) B d_L_law_392 rfl rfl (fun _ => next _ _ hI hC hQ) (fun z => absurd rfl z)
theorem law_changed {M : aw_M} {G : aw_G} (hG : gr G) (B : aw_B M G code 4 "SessionTablesLaw" 9) {L : Nat} {xs : Nat → Int32} (hX : aw_SX M G L xs) (hL : L ≤ 2561) {i : Nat} (hiL : i + 5 ≤ L) {S : pz_S} {h : aw_H} (hI : pz_inv S) (hC : cz G S h) (hQ : qz G S h) (next : ∀ S' h', pz_inv S' → cz G S' h' → qz G S' h' → aw_X M G 4 651 [some (.inl (some 1000)), some (.inl (some 0)), some (.inl (some 40)), some (.inr (nI i))] [] h') : aw_X M G 4 397 [some (.inl (some 1000)), some (.inl (some 0)), some (.inl (some 40)), some (.inr (nI i))] [] h := by
  have i0 := hG.1.is0
  have i40 := hG.i40
  refine ax_aload_n (q := 398) B d_L_law_397 rfl rfl rfl ?_
  refine ax_qV0 (q := 401) B cv_L_63 d_L_law_398 (by assumption) (Nat.le_of_ble_eq_true rfl) (by decide) (p_changed hG.1 hC) rfl ?_
  refine ax_aload_n (q := 402) B d_L_law_401 rfl rfl rfl ?_
  refine ax_qV0 (q := 405) B cv_L_66 d_L_law_402 (by assumption) (Nat.le_of_ble_eq_true rfl) (by decide) (q_changed hG hQ) rfl ?_
  exact ax_icmp_eq (q := 651) (q2 := 408) B d_L_law_405 rfl rfl (fun _ => next _ _ hI hC hQ) (fun z => absurd rfl z)
theorem law_tables {M : aw_M} {G : aw_G} (hG : gr G) (B : aw_B M G code 4 "SessionTablesLaw" 9) {L : Nat} {xs : Nat → Int32} (hX : aw_SX M G L xs) (hL : L ≤ 2561) {i : Nat} (hiL : i + 5 ≤ L) {S : pz_S} {h : aw_H} (hI : pz_inv S) (hC : cz G S h) (hQ : qz G S h) (next : ∀ S' h', pz_inv S' → cz G S' h' → qz G S' h' → aw_X M G 4 651 [some (.inl (some 1000)), some (.inl (some 0)), some (.inl (some 40)), some (.inr (nI i))] [] h') : aw_X M G 4 410 [some (.inl (some 1000)), some (.inl (some 0)), some (.inl (some 40)), some (.inr (nI i))] [] h := by
  have i0 := hG.1.is0
  have i40 := hG.i40
  refine ax_aload_n (q := 411) B d_L_law_410 rfl rfl rfl ?_
  refine ax_qV0 (q := 414) B cv_L_67 d_L_law_411 (by assumption) (Nat.le_of_ble_eq_true rfl) (by decide) (p_tables hG.1 hC hI) rfl ?_
  refine ax_aload_n (q := 415) B d_L_law_414 rfl rfl rfl ?_
  refine ax_qV0 (q := 418) B cv_L_70 d_L_law_415 (by assumption) (Nat.le_of_ble_eq_true rfl) (by decide) (q_tables hG hQ hI) rfl ?_
  exact ax_icmp_eq (q := 651) (q2 := 421) B d_L_law_418 rfl rfl (fun _ => next _ _ hI hC hQ) (fun z => absurd rfl z)
theorem law_kind {M : aw_M} {G : aw_G} (hG : gr G) (B : aw_B M G code 4 "SessionTablesLaw" 9) {L : Nat} {xs : Nat → Int32} (hX : aw_SX M G L xs) (hL : L ≤ 2561) {i : Nat} (hiL : i + 5 ≤ L) {S : pz_S} {h : aw_H} (hI : pz_inv S) (hC : cz G S h) (hQ : qz G S h) (next : ∀ S' h', pz_inv S' → cz G S' h' → qz G S' h' → aw_X M G 4 651 [some (.inl (some 1000)), some (.inl (some 0)), some (.inl (some 40)), some (.inr (nI i))] [] h') : aw_X M G 4 423 [some (.inl (some 1000)), some (.inl (some 0)), some (.inl (some 40)), some (.inr (nI i))] [] h := by
  have i0 := hG.1.is0
  have i40 := hG.i40
  refine ax_aload_n (q := 424) B d_L_law_423 rfl rfl rfl ?_
  refine ax_aload_n (q := 425) B d_L_law_424 rfl rfl rfl ?_
  refine ax_iload_n (q := 426) B d_L_law_425 rfl rfl rfl ?_
  refine ax_iconst (v := nI 1) (q := 427) B d_L_law_426 ci_1 rfl ?_
  first | refine ax_iaddN (q := 428) B d_L_law_427 rfl ?_ | refine ax_iadd (q := 428) B d_L_law_427 rfl ?_
  refine ax_sld (q := 429) B hX d_L_law_428 (by omega) (by omega) rfl ?_
  refine ax_aload_n (q := 430) B d_L_law_429 rfl rfl rfl ?_
  refine ax_iload_n (q := 431) B d_L_law_430 rfl rfl rfl ?_
  refine ax_iconst (v := nI 2) (q := 432) B d_L_law_431 ci_2 rfl ?_
  first | refine ax_iaddN (q := 433) B d_L_law_432 rfl ?_ | refine ax_iadd (q := 433) B d_L_law_432 rfl ?_
  refine ax_sld (q := 434) B hX d_L_law_433 (by omega) (by omega) rfl ?_
  refine ax_gV2 (q := 437) B cv_L_71 d_L_law_434 (by assumption) (Nat.le_of_ble_eq_true rfl) (by decide) (p_kind hG.1 hC hI _ _) rfl (fun v h1 hv => ?_)
  obtain ⟨rfl, hC1, hf1⟩ := hv
  have hQ1 : qz G S h1 := hQ.kept (fun q q1 q2 => hf1 q (by omega))
  refine ax_aload_n (q := 438) B d_L_law_437 rfl rfl rfl ?_
  refine ax_aload_n (q := 439) B d_L_law_438 rfl rfl rfl ?_
  refine ax_iload_n (q := 440) B d_L_law_439 rfl rfl rfl ?_
  refine ax_iconst (v := nI 1) (q := 441) B d_L_law_440 ci_1 rfl ?_
  first | refine ax_iaddN (q := 442) B d_L_law_441 rfl ?_ | refine ax_iadd (q := 442) B d_L_law_441 rfl ?_
  refine ax_sld (q := 443) B hX d_L_law_442 (by omega) (by omega) rfl ?_
  refine ax_aload_n (q := 444) B d_L_law_443 rfl rfl rfl ?_
  refine ax_iload_n (q := 445) B d_L_law_444 rfl rfl rfl ?_
  refine ax_iconst (v := nI 2) (q := 446) B d_L_law_445 ci_2 rfl ?_
  first | refine ax_iaddN (q := 447) B d_L_law_446 rfl ?_ | refine ax_iadd (q := 447) B d_L_law_446 rfl ?_
  refine ax_sld (q := 448) B hX d_L_law_447 (by omega) (by omega) rfl ?_
  refine ax_gV2 (q := 451) B cv_L_74 d_L_law_448 (by assumption) (Nat.le_of_ble_eq_true rfl) (by decide) (q_kind hG hQ1 hI _ _) rfl (fun v h2 hv => ?_)
  obtain ⟨rfl, hQ2, hf2⟩ := hv
  exact ax_icmp_eq (q := 651) (q2 := 454) B d_L_law_451 rfl rfl (fun _ => next _ _ hI (hC1.kept hf2) hQ2) (fun z => absurd rfl z)
theorem law_items {M : aw_M} {G : aw_G} (hG : gr G) (B : aw_B M G code 4 "SessionTablesLaw" 9) {L : Nat} {xs : Nat → Int32} (hX : aw_SX M G L xs) (hL : L ≤ 2561) {i : Nat} (hiL : i + 5 ≤ L) {S : pz_S} {h : aw_H} (hI : pz_inv S) (hC : cz G S h) (hQ : qz G S h) (next : ∀ S' h', pz_inv S' → cz G S' h' → qz G S' h' → aw_X M G 4 651 [some (.inl (some 1000)), some (.inl (some 0)), some (.inl (some 40)), some (.inr (nI i))] [] h') : aw_X M G 4 456 [some (.inl (some 1000)), some (.inl (some 0)), some (.inl (some 40)), some (.inr (nI i))] [] h := by
  have i0 := hG.1.is0
  have i40 := hG.i40
  refine ax_aload_n (q := 457) B d_L_law_456 rfl rfl rfl ?_
  refine ax_aload_n (q := 458) B d_L_law_457 rfl rfl rfl ?_
  refine ax_iload_n (q := 459) B d_L_law_458 rfl rfl rfl ?_
  refine ax_iconst (v := nI 1) (q := 460) B d_L_law_459 ci_1 rfl ?_
  first | refine ax_iaddN (q := 461) B d_L_law_460 rfl ?_ | refine ax_iadd (q := 461) B d_L_law_460 rfl ?_
  refine ax_sld (q := 462) B hX d_L_law_461 (by omega) (by omega) rfl ?_
  refine ax_aload_n (q := 463) B d_L_law_462 rfl rfl rfl ?_
  refine ax_iload_n (q := 464) B d_L_law_463 rfl rfl rfl ?_
  refine ax_iconst (v := nI 2) (q := 465) B d_L_law_464 ci_2 rfl ?_
  first | refine ax_iaddN (q := 466) B d_L_law_465 rfl ?_ | refine ax_iadd (q := 466) B d_L_law_465 rfl ?_
  refine ax_sld (q := 467) B hX d_L_law_466 (by omega) (by omega) rfl ?_
  refine ax_gV2 (q := 470) B cv_L_75 d_L_law_467 (by assumption) (Nat.le_of_ble_eq_true rfl) (by decide) (p_items hG.1 hC hI _ _) rfl (fun v h1 hv => ?_)
  obtain ⟨rfl, hC1, hf1⟩ := hv
  have hQ1 : qz G S h1 := hQ.kept (fun q q1 q2 => hf1 q (by omega))
  refine ax_aload_n (q := 471) B d_L_law_470 rfl rfl rfl ?_
  refine ax_aload_n (q := 472) B d_L_law_471 rfl rfl rfl ?_
  refine ax_iload_n (q := 473) B d_L_law_472 rfl rfl rfl ?_
  refine ax_iconst (v := nI 1) (q := 474) B d_L_law_473 ci_1 rfl ?_
  first | refine ax_iaddN (q := 475) B d_L_law_474 rfl ?_ | refine ax_iadd (q := 475) B d_L_law_474 rfl ?_
  refine ax_sld (q := 476) B hX d_L_law_475 (by omega) (by omega) rfl ?_
  refine ax_aload_n (q := 477) B d_L_law_476 rfl rfl rfl ?_
  refine ax_iload_n (q := 478) B d_L_law_477 rfl rfl rfl ?_
  refine ax_iconst (v := nI 2) (q := 479) B d_L_law_478 ci_2 rfl ?_
  first | refine ax_iaddN (q := 480) B d_L_law_479 rfl ?_ | refine ax_iadd (q := 480) B d_L_law_479 rfl ?_
  refine ax_sld (q := 481) B hX d_L_law_480 (by omega) (by omega) rfl ?_
  refine ax_gV2 (q := 484) B cv_L_78 d_L_law_481 (by assumption) (Nat.le_of_ble_eq_true rfl) (by decide) (q_items hG hQ1 hI _ _) rfl (fun v h2 hv => ?_)
  obtain ⟨rfl, hQ2, hf2⟩ := hv
  exact ax_icmp_eq (q := 651) (q2 := 487) B d_L_law_484 rfl rfl (fun _ => next _ _ hI (hC1.kept hf2) hQ2) (fun z => absurd rfl z)
theorem law_find {M : aw_M} {G : aw_G} (hG : gr G) (B : aw_B M G code 4 "SessionTablesLaw" 9) {L : Nat} {xs : Nat → Int32} (hX : aw_SX M G L xs) (hL : L ≤ 2561) {i : Nat} (hiL : i + 5 ≤ L) {S : pz_S} {h : aw_H} (hI : pz_inv S) (hC : cz G S h) (hQ : qz G S h) (next : ∀ S' h', pz_inv S' → cz G S' h' → qz G S' h' → aw_X M G 4 651 [some (.inl (some 1000)), some (.inl (some 0)), some (.inl (some 40)), some (.inr (nI i))] [] h') : aw_X M G 4 489 [some (.inl (some 1000)), some (.inl (some 0)), some (.inl (some 40)), some (.inr (nI i))] [] h := by
  have i0 := hG.1.is0
  have i40 := hG.i40
  refine ax_aload_n (q := 490) B d_L_law_489 rfl rfl rfl ?_
  refine ax_aload_n (q := 491) B d_L_law_490 rfl rfl rfl ?_
  refine ax_iload_n (q := 492) B d_L_law_491 rfl rfl rfl ?_
  refine ax_iconst (v := nI 1) (q := 493) B d_L_law_492 ci_1 rfl ?_
  first | refine ax_iaddN (q := 494) B d_L_law_493 rfl ?_ | refine ax_iadd (q := 494) B d_L_law_493 rfl ?_
  refine ax_sld (q := 495) B hX d_L_law_494 (by omega) (by omega) rfl ?_
  refine ax_aload_n (q := 496) B d_L_law_495 rfl rfl rfl ?_
  refine ax_iload_n (q := 497) B d_L_law_496 rfl rfl rfl ?_
  refine ax_iconst (v := nI 2) (q := 498) B d_L_law_497 ci_2 rfl ?_
  first | refine ax_iaddN (q := 499) B d_L_law_498 rfl ?_ | refine ax_iadd (q := 499) B d_L_law_498 rfl ?_
  refine ax_sld (q := 500) B hX d_L_law_499 (by omega) (by omega) rfl ?_
  refine ax_aload_n (q := 501) B d_L_law_500 rfl rfl rfl ?_
  refine ax_iload_n (q := 502) B d_L_law_501 rfl rfl rfl ?_
  refine ax_iconst (v := nI 3) (q := 503) B d_L_law_502 ci_3 rfl ?_
  first | refine ax_iaddN (q := 504) B d_L_law_503 rfl ?_ | refine ax_iadd (q := 504) B d_L_law_503 rfl ?_
  refine ax_sld (q := 505) B hX d_L_law_504 (by omega) (by omega) rfl ?_
  refine ax_gV3 (q := 508) B cv_L_79 d_L_law_505 (by assumption) (Nat.le_of_ble_eq_true rfl) (by decide) (p_find hG.1 hC hI _ _ _) rfl (fun v h1 hv => ?_)
  obtain ⟨rfl, hC1, hf1⟩ := hv
  have hQ1 : qz G S h1 := hQ.kept (fun q q1 q2 => hf1 q (by omega))
  refine ax_aload_n (q := 509) B d_L_law_508 rfl rfl rfl ?_
  refine ax_aload_n (q := 510) B d_L_law_509 rfl rfl rfl ?_
  refine ax_iload_n (q := 511) B d_L_law_510 rfl rfl rfl ?_
  refine ax_iconst (v := nI 1) (q := 512) B d_L_law_511 ci_1 rfl ?_
  first | refine ax_iaddN (q := 513) B d_L_law_512 rfl ?_ | refine ax_iadd (q := 513) B d_L_law_512 rfl ?_
  refine ax_sld (q := 514) B hX d_L_law_513 (by omega) (by omega) rfl ?_
  refine ax_aload_n (q := 515) B d_L_law_514 rfl rfl rfl ?_
  refine ax_iload_n (q := 516) B d_L_law_515 rfl rfl rfl ?_
  refine ax_iconst (v := nI 2) (q := 517) B d_L_law_516 ci_2 rfl ?_
  first | refine ax_iaddN (q := 518) B d_L_law_517 rfl ?_ | refine ax_iadd (q := 518) B d_L_law_517 rfl ?_
  refine ax_sld (q := 519) B hX d_L_law_518 (by omega) (by omega) rfl ?_
  refine ax_aload_n (q := 520) B d_L_law_519 rfl rfl rfl ?_
  refine ax_iload_n (q := 521) B d_L_law_520 rfl rfl rfl ?_
  refine ax_iconst (v := nI 3) (q := 522) B d_L_law_521 ci_3 rfl ?_
  first | refine ax_iaddN (q := 523) B d_L_law_522 rfl ?_ | refine ax_iadd (q := 523) B d_L_law_522 rfl ?_
  refine ax_sld (q := 524) B hX d_L_law_523 (by omega) (by omega) rfl ?_
  refine ax_gV3 (q := 527) B cv_L_82 d_L_law_524 (by assumption) (Nat.le_of_ble_eq_true rfl) (by decide) (q_find hG hQ1 hI _ _ _) rfl (fun v h2 hv => ?_)
  obtain ⟨rfl, hQ2, hf2⟩ := hv
  exact ax_icmp_eq (q := 651) (q2 := 530) B d_L_law_527 rfl rfl (fun _ => next _ _ hI (hC1.kept hf2) hQ2) (fun z => absurd rfl z)
theorem law_item {M : aw_M} {G : aw_G} (hG : gr G) (B : aw_B M G code 4 "SessionTablesLaw" 9) {L : Nat} {xs : Nat → Int32} (hX : aw_SX M G L xs) (hL : L ≤ 2561) {i : Nat} (hiL : i + 5 ≤ L) {S : pz_S} {h : aw_H} (hI : pz_inv S) (hC : cz G S h) (hQ : qz G S h) (next : ∀ S' h', pz_inv S' → cz G S' h' → qz G S' h' → aw_X M G 4 651 [some (.inl (some 1000)), some (.inl (some 0)), some (.inl (some 40)), some (.inr (nI i))] [] h') : aw_X M G 4 532 [some (.inl (some 1000)), some (.inl (some 0)), some (.inl (some 40)), some (.inr (nI i))] [] h := by
  have i0 := hG.1.is0
  have i40 := hG.i40
  refine ax_aload_n (q := 533) B d_L_law_532 rfl rfl rfl ?_
  refine ax_aload_n (q := 534) B d_L_law_533 rfl rfl rfl ?_
  refine ax_iload_n (q := 535) B d_L_law_534 rfl rfl rfl ?_
  refine ax_iconst (v := nI 1) (q := 536) B d_L_law_535 ci_1 rfl ?_
  first | refine ax_iaddN (q := 537) B d_L_law_536 rfl ?_ | refine ax_iadd (q := 537) B d_L_law_536 rfl ?_
  refine ax_sld (q := 538) B hX d_L_law_537 (by omega) (by omega) rfl ?_
  refine ax_aload_n (q := 539) B d_L_law_538 rfl rfl rfl ?_
  refine ax_iload_n (q := 540) B d_L_law_539 rfl rfl rfl ?_
  refine ax_iconst (v := nI 2) (q := 541) B d_L_law_540 ci_2 rfl ?_
  first | refine ax_iaddN (q := 542) B d_L_law_541 rfl ?_ | refine ax_iadd (q := 542) B d_L_law_541 rfl ?_
  refine ax_sld (q := 543) B hX d_L_law_542 (by omega) (by omega) rfl ?_
  refine ax_aload_n (q := 544) B d_L_law_543 rfl rfl rfl ?_
  refine ax_iload_n (q := 545) B d_L_law_544 rfl rfl rfl ?_
  refine ax_iconst (v := nI 3) (q := 546) B d_L_law_545 ci_3 rfl ?_
  first | refine ax_iaddN (q := 547) B d_L_law_546 rfl ?_ | refine ax_iadd (q := 547) B d_L_law_546 rfl ?_
  refine ax_sld (q := 548) B hX d_L_law_547 (by omega) (by omega) rfl ?_
  refine ax_gV3 (q := 551) B cv_L_83 d_L_law_548 (by assumption) (Nat.le_of_ble_eq_true rfl) (by decide) (p_item hG.1 hC hI _ _ _) rfl (fun v h1 hv => ?_)
  obtain ⟨rfl, hC1, hf1⟩ := hv
  have hQ1 : qz G S h1 := hQ.kept (fun q q1 q2 => hf1 q (by omega))
  refine ax_aload_n (q := 552) B d_L_law_551 rfl rfl rfl ?_
  refine ax_aload_n (q := 553) B d_L_law_552 rfl rfl rfl ?_
  refine ax_iload_n (q := 554) B d_L_law_553 rfl rfl rfl ?_
  refine ax_iconst (v := nI 1) (q := 555) B d_L_law_554 ci_1 rfl ?_
  first | refine ax_iaddN (q := 556) B d_L_law_555 rfl ?_ | refine ax_iadd (q := 556) B d_L_law_555 rfl ?_
  refine ax_sld (q := 557) B hX d_L_law_556 (by omega) (by omega) rfl ?_
  refine ax_aload_n (q := 558) B d_L_law_557 rfl rfl rfl ?_
  refine ax_iload_n (q := 559) B d_L_law_558 rfl rfl rfl ?_
  refine ax_iconst (v := nI 2) (q := 560) B d_L_law_559 ci_2 rfl ?_
  first | refine ax_iaddN (q := 561) B d_L_law_560 rfl ?_ | refine ax_iadd (q := 561) B d_L_law_560 rfl ?_
  refine ax_sld (q := 562) B hX d_L_law_561 (by omega) (by omega) rfl ?_
  refine ax_aload_n (q := 563) B d_L_law_562 rfl rfl rfl ?_
  refine ax_iload_n (q := 564) B d_L_law_563 rfl rfl rfl ?_
  refine ax_iconst (v := nI 3) (q := 565) B d_L_law_564 ci_3 rfl ?_
  first | refine ax_iaddN (q := 566) B d_L_law_565 rfl ?_ | refine ax_iadd (q := 566) B d_L_law_565 rfl ?_
  refine ax_sld (q := 567) B hX d_L_law_566 (by omega) (by omega) rfl ?_
  refine ax_gV3 (q := 570) B cv_L_86 d_L_law_567 (by assumption) (Nat.le_of_ble_eq_true rfl) (by decide) (q_item hG hQ1 hI _ _ _) rfl (fun v h2 hv => ?_)
  obtain ⟨rfl, hQ2, hf2⟩ := hv
  exact ax_icmp_eq (q := 651) (q2 := 573) B d_L_law_570 rfl rfl (fun _ => next _ _ hI (hC1.kept hf2) hQ2) (fun z => absurd rfl z)
theorem law_block {M : aw_M} {G : aw_G} (hG : gr G) (B : aw_B M G code 4 "SessionTablesLaw" 9) {L : Nat} {xs : Nat → Int32} (hX : aw_SX M G L xs) (hL : L ≤ 2561) {i : Nat} (hiL : i + 5 ≤ L) {S : pz_S} {h : aw_H} (hI : pz_inv S) (hC : cz G S h) (hQ : qz G S h) (next : ∀ S' h', pz_inv S' → cz G S' h' → qz G S' h' → aw_X M G 4 651 [some (.inl (some 1000)), some (.inl (some 0)), some (.inl (some 40)), some (.inr (nI i))] [] h') : aw_X M G 4 575 [some (.inl (some 1000)), some (.inl (some 0)), some (.inl (some 40)), some (.inr (nI i))] [] h := by
  have i0 := hG.1.is0
  have i40 := hG.i40
  refine ax_aload_n (q := 576) B d_L_law_575 rfl rfl rfl ?_
  refine ax_aload_n (q := 577) B d_L_law_576 rfl rfl rfl ?_
  refine ax_iload_n (q := 578) B d_L_law_577 rfl rfl rfl ?_
  refine ax_iconst (v := nI 1) (q := 579) B d_L_law_578 ci_1 rfl ?_
  first | refine ax_iaddN (q := 580) B d_L_law_579 rfl ?_ | refine ax_iadd (q := 580) B d_L_law_579 rfl ?_
  refine ax_sld (q := 581) B hX d_L_law_580 (by omega) (by omega) rfl ?_
  refine ax_aload_n (q := 582) B d_L_law_581 rfl rfl rfl ?_
  refine ax_iload_n (q := 583) B d_L_law_582 rfl rfl rfl ?_
  refine ax_iconst (v := nI 2) (q := 584) B d_L_law_583 ci_2 rfl ?_
  first | refine ax_iaddN (q := 585) B d_L_law_584 rfl ?_ | refine ax_iadd (q := 585) B d_L_law_584 rfl ?_
  refine ax_sld (q := 586) B hX d_L_law_585 (by omega) (by omega) rfl ?_
  refine ax_aload_n (q := 587) B d_L_law_586 rfl rfl rfl ?_
  refine ax_iload_n (q := 588) B d_L_law_587 rfl rfl rfl ?_
  refine ax_iconst (v := nI 3) (q := 589) B d_L_law_588 ci_3 rfl ?_
  first | refine ax_iaddN (q := 590) B d_L_law_589 rfl ?_ | refine ax_iadd (q := 590) B d_L_law_589 rfl ?_
  refine ax_sld (q := 591) B hX d_L_law_590 (by omega) (by omega) rfl ?_
  refine ax_gV3 (q := 594) B cv_L_87 d_L_law_591 (by assumption) (Nat.le_of_ble_eq_true rfl) (by decide) (p_block hG.1 hC hI _ _ _) rfl (fun v h1 hv => ?_)
  obtain ⟨rfl, hC1, hf1⟩ := hv
  have hQ1 : qz G S h1 := hQ.kept (fun q q1 q2 => hf1 q (by omega))
  refine ax_aload_n (q := 595) B d_L_law_594 rfl rfl rfl ?_
  refine ax_aload_n (q := 596) B d_L_law_595 rfl rfl rfl ?_
  refine ax_iload_n (q := 597) B d_L_law_596 rfl rfl rfl ?_
  refine ax_iconst (v := nI 1) (q := 598) B d_L_law_597 ci_1 rfl ?_
  first | refine ax_iaddN (q := 599) B d_L_law_598 rfl ?_ | refine ax_iadd (q := 599) B d_L_law_598 rfl ?_
  refine ax_sld (q := 600) B hX d_L_law_599 (by omega) (by omega) rfl ?_
  refine ax_aload_n (q := 601) B d_L_law_600 rfl rfl rfl ?_
  refine ax_iload_n (q := 602) B d_L_law_601 rfl rfl rfl ?_
  refine ax_iconst (v := nI 2) (q := 603) B d_L_law_602 ci_2 rfl ?_
  first | refine ax_iaddN (q := 604) B d_L_law_603 rfl ?_ | refine ax_iadd (q := 604) B d_L_law_603 rfl ?_
  refine ax_sld (q := 605) B hX d_L_law_604 (by omega) (by omega) rfl ?_
  refine ax_aload_n (q := 606) B d_L_law_605 rfl rfl rfl ?_
  refine ax_iload_n (q := 607) B d_L_law_606 rfl rfl rfl ?_
  refine ax_iconst (v := nI 3) (q := 608) B d_L_law_607 ci_3 rfl ?_
  first | refine ax_iaddN (q := 609) B d_L_law_608 rfl ?_ | refine ax_iadd (q := 609) B d_L_law_608 rfl ?_
  refine ax_sld (q := 610) B hX d_L_law_609 (by omega) (by omega) rfl ?_
  refine ax_gV3 (q := 613) B cv_L_90 d_L_law_610 (by assumption) (Nat.le_of_ble_eq_true rfl) (by decide) (q_block hG hQ1 hI _ _ _) rfl (fun v h2 hv => ?_)
  obtain ⟨rfl, hQ2, hf2⟩ := hv
  exact ax_icmp_eq (q := 651) (q2 := 616) B d_L_law_613 rfl rfl (fun _ => next _ _ hI (hC1.kept hf2) hQ2) (fun z => absurd rfl z)
theorem law_word {M : aw_M} {G : aw_G} (hG : gr G) (B : aw_B M G code 4 "SessionTablesLaw" 9) {L : Nat} {xs : Nat → Int32} (hX : aw_SX M G L xs) (hL : L ≤ 2561) {i : Nat} (hiL : i + 5 ≤ L) {S : pz_S} {h : aw_H} (hI : pz_inv S) (hC : cz G S h) (hQ : qz G S h) (next : ∀ S' h', pz_inv S' → cz G S' h' → qz G S' h' → aw_X M G 4 651 [some (.inl (some 1000)), some (.inl (some 0)), some (.inl (some 40)), some (.inr (nI i))] [] h') : aw_X M G 4 618 [some (.inl (some 1000)), some (.inl (some 0)), some (.inl (some 40)), some (.inr (nI i))] [] h := by
  have i0 := hG.1.is0
  have i40 := hG.i40
  refine ax_aload_n (q := 619) B d_L_law_618 rfl rfl rfl ?_
  refine ax_aload_n (q := 620) B d_L_law_619 rfl rfl rfl ?_
  refine ax_iload_n (q := 621) B d_L_law_620 rfl rfl rfl ?_
  refine ax_iconst (v := nI 1) (q := 622) B d_L_law_621 ci_1 rfl ?_
  first | refine ax_iaddN (q := 623) B d_L_law_622 rfl ?_ | refine ax_iadd (q := 623) B d_L_law_622 rfl ?_
  refine ax_sld (q := 624) B hX d_L_law_623 (by omega) (by omega) rfl ?_
  refine ax_aload_n (q := 625) B d_L_law_624 rfl rfl rfl ?_
  refine ax_iload_n (q := 626) B d_L_law_625 rfl rfl rfl ?_
  refine ax_iconst (v := nI 2) (q := 627) B d_L_law_626 ci_2 rfl ?_
  first | refine ax_iaddN (q := 628) B d_L_law_627 rfl ?_ | refine ax_iadd (q := 628) B d_L_law_627 rfl ?_
  refine ax_sld (q := 629) B hX d_L_law_628 (by omega) (by omega) rfl ?_
  refine ax_qV2 (q := 632) B cv_L_91 d_L_law_629 (by assumption) (Nat.le_of_ble_eq_true rfl) (by decide) (p_word hG.1 hC _ _) rfl ?_
  refine ax_aload_n (q := 633) B d_L_law_632 rfl rfl rfl ?_
  refine ax_aload_n (q := 634) B d_L_law_633 rfl rfl rfl ?_
  refine ax_iload_n (q := 635) B d_L_law_634 rfl rfl rfl ?_
  refine ax_iconst (v := nI 1) (q := 636) B d_L_law_635 ci_1 rfl ?_
  first | refine ax_iaddN (q := 637) B d_L_law_636 rfl ?_ | refine ax_iadd (q := 637) B d_L_law_636 rfl ?_
  refine ax_sld (q := 638) B hX d_L_law_637 (by omega) (by omega) rfl ?_
  refine ax_aload_n (q := 639) B d_L_law_638 rfl rfl rfl ?_
  refine ax_iload_n (q := 640) B d_L_law_639 rfl rfl rfl ?_
  refine ax_iconst (v := nI 2) (q := 641) B d_L_law_640 ci_2 rfl ?_
  first | refine ax_iaddN (q := 642) B d_L_law_641 rfl ?_ | refine ax_iadd (q := 642) B d_L_law_641 rfl ?_
  refine ax_sld (q := 643) B hX d_L_law_642 (by omega) (by omega) rfl ?_
  refine ax_qV2 (q := 646) B cv_L_94 d_L_law_643 (by assumption) (Nat.le_of_ble_eq_true rfl) (by decide) (q_word hG hQ _ _) rfl ?_
  exact ax_icmp_eq (q := 651) (q2 := 649) B d_L_law_646 rfl rfl (fun _ => next _ _ hI hC hQ) (fun z => absurd rfl z)
theorem law_loop {M : aw_M} {G : aw_G} (hG : gr G) (B : aw_B M G code 4 "SessionTablesLaw" 9) {L : Nat} {xs : Nat → Int32} (hX : aw_SX M G L xs) (hL : L ≤ 2561) (RET : ∀ ls h, aw_X M G 4 658 ls [.inr (nI 1)] h) : ∀ m i S h, L ≤ i + m → i ≤ 4000 → pz_inv S → cz G S h → qz G S h → aw_X M G 4 28 [some (.inl (some 1000)), some (.inl (some 0)), some (.inl (some 40)), some (.inr (nI i))] [] h := by
  intro m
  induction m with
  | zero =>
    intro i S h hm hi hI hC hQ
    have hl := lt_full (u := L) (a := 5) (v := i) (by omega) (by omega) (by omega)
    refine ax_iload_n (q := 29) B d_L_law_28 rfl rfl rfl ?_
    refine ax_aload_n (q := 30) B d_L_law_29 rfl rfl rfl ?_
    refine ax_slen (q := 31) B hX d_L_law_30 rfl ?_
    refine ax_iconst (v := nI 5) (q := 32) B d_L_law_31 ci_5 rfl ?_
    refine ax_isub (q := 33) B d_L_law_32 rfl ?_
    refine ax_icmp_gt (q := 657) (q2 := 36) B d_L_law_33 rfl rfl (fun h33 => ?_) (fun h33 => ?_)
    · refine ax_iconst (v := nI 1) (q := 658) B d_L_law_657 ci_1 rfl ?_
      exact RET _ _
    · exact absurd (hl.mpr (by omega)) h33
  | succ m ih =>
    intro i S h hm hi hI hC hQ
    have hl := lt_full (u := L) (a := 5) (v := i) (by omega) (by omega) (by omega)
    have go : i + 5 ≤ L → aw_X M G 4 36 [some (.inl (some 1000)), some (.inl (some 0)), some (.inl (some 40)), some (.inr (nI i))] [] h := by
      intro hiL
      have next : ∀ S' h', pz_inv S' → cz G S' h' → qz G S' h' → aw_X M G 4 651 [some (.inl (some 1000)), some (.inl (some 0)), some (.inl (some 40)), some (.inr (nI i))] [] h' := by
        intro S' h' hI' hC' hQ'
        refine ax_iincN (j := 5) (q := 654) B d_L_law_651 rfl (by decide) (by decide) rfl ?_
        refine ax_goto (q := 28) B d_L_law_654 rfl ?_
        exact ih (i + 5) S' h' (by omega) (by omega) hI' hC' hQ'
      refine ax_aload_n (q := 37) B d_L_law_36 rfl rfl rfl ?_
      refine ax_iload_n (q := 38) B d_L_law_37 rfl rfl rfl ?_
      refine ax_sld (q := 39) B hX d_L_law_38 (by omega) (by omega) rfl ?_
      refine ax_bipush (v := nI 31) (q := 41) B d_L_law_39 cb_31 rfl ?_
      obtain ⟨c, hc, ec⟩ := pk_andE (xs i) (m := nI 31) 5 (by decide)
      refine ax_iand (q := 42) B d_L_law_41 rfl ?_
      refine ax_top ec ?_
      have hc : c < 32 := hc
      by_cases h16 : 16 < c
      · refine ax_tout (q := 651) B d_L_law_42 (Or.inr (by rw [nI_toInt (by omega)]; omega)) rfl ?_
        exact next S h hI hC hQ
      by_cases hk0 : c = 0
      · subst hk0
        exact ax_tin (q := 124) B d_L_law_42 (by decide) (by decide) rfl rfl (law_make hG B hX hL hiL hI hC hQ next)
      by_cases hk1 : c = 1
      · subst hk1
        exact ax_tin (q := 183) B d_L_law_42 (by decide) (by decide) rfl rfl (law_write hG B hX hL hiL hI hC hQ next)
      by_cases hk2 : c = 2
      · subst hk2
        exact ax_tin (q := 226) B d_L_law_42 (by decide) (by decide) rfl rfl (law_remove hG B hX hL hiL hI hC hQ next)
      by_cases hk3 : c = 3
      · subst hk3
        exact ax_tin (q := 259) B d_L_law_42 (by decide) (by decide) rfl rfl (law_move hG B hX hL hiL hI hC hQ next)
      by_cases hk4 : c = 4
      · subst hk4
        exact ax_tin (q := 312) B d_L_law_42 (by decide) (by decide) rfl rfl (law_close hG B hX hL hiL hI hC hQ next)
      by_cases hk5 : c = 5
      · subst hk5
        exact ax_tin (q := 325) B d_L_law_42 (by decide) (by decide) rfl rfl (law_arm hG B hX hL hiL hI hC hQ next)
      by_cases hk6 : c = 6
      · subst hk6
        exact ax_tin (q := 348) B d_L_law_42 (by decide) (by decide) rfl rfl (law_crash hG B hX hL hiL hI hC hQ next)
      by_cases hk7 : c = 7
      · subst hk7
        exact ax_tin (q := 361) B d_L_law_42 (by decide) (by decide) rfl rfl (law_spoil hG B hX hL hiL hI hC hQ next)
      by_cases hk8 : c = 8
      · subst hk8
        exact ax_tin (q := 384) B d_L_law_42 (by decide) (by decide) rfl rfl (law_left hG B hX hL hiL hI hC hQ next)
      by_cases hk9 : c = 9
      · subst hk9
        exact ax_tin (q := 397) B d_L_law_42 (by decide) (by decide) rfl rfl (law_changed hG B hX hL hiL hI hC hQ next)
      by_cases hk10 : c = 10
      · subst hk10
        exact ax_tin (q := 410) B d_L_law_42 (by decide) (by decide) rfl rfl (law_tables hG B hX hL hiL hI hC hQ next)
      by_cases hk11 : c = 11
      · subst hk11
        exact ax_tin (q := 423) B d_L_law_42 (by decide) (by decide) rfl rfl (law_kind hG B hX hL hiL hI hC hQ next)
      by_cases hk12 : c = 12
      · subst hk12
        exact ax_tin (q := 456) B d_L_law_42 (by decide) (by decide) rfl rfl (law_items hG B hX hL hiL hI hC hQ next)
      by_cases hk13 : c = 13
      · subst hk13
        exact ax_tin (q := 489) B d_L_law_42 (by decide) (by decide) rfl rfl (law_find hG B hX hL hiL hI hC hQ next)
      by_cases hk14 : c = 14
      · subst hk14
        exact ax_tin (q := 532) B d_L_law_42 (by decide) (by decide) rfl rfl (law_item hG B hX hL hiL hI hC hQ next)
      by_cases hk15 : c = 15
      · subst hk15
        exact ax_tin (q := 575) B d_L_law_42 (by decide) (by decide) rfl rfl (law_block hG B hX hL hiL hI hC hQ next)
      by_cases hk16 : c = 16
      · subst hk16
        exact ax_tin (q := 618) B d_L_law_42 (by decide) (by decide) rfl rfl (law_word hG B hX hL hiL hI hC hQ next)
      exact absurd hc (by omega)
    refine ax_iload_n (q := 29) B d_L_law_28 rfl rfl rfl ?_
    refine ax_aload_n (q := 30) B d_L_law_29 rfl rfl rfl ?_
    refine ax_slen (q := 31) B hX d_L_law_30 rfl ?_
    refine ax_iconst (v := nI 5) (q := 32) B d_L_law_31 ci_5 rfl ?_
    refine ax_isub (q := 33) B d_L_law_32 rfl ?_
    refine ax_icmp_gt (q := 657) (q2 := 36) B d_L_law_33 rfl rfl (fun h33 => ?_) (fun h33 => ?_)
    · refine ax_iconst (v := nI 1) (q := 658) B d_L_law_657 ci_1 rfl ?_
      exact RET _ _
    · exact go (Nat.le_of_not_lt (fun z => h33 (hl.mpr (by omega))))
