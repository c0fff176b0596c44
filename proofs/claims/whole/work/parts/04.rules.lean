/- the same instructions over numbers nI a and truth values bI b -/
theorem nx_xor (a b : Nat) : nI a ^^^ nI b = nI (a ^^^ b) := by
  apply Int32.toBitVec_inj.1
  show BitVec.ofNat 32 a ^^^ BitVec.ofNat 32 b = BitVec.ofNat 32 (a ^^^ b)
  apply BitVec.eq_of_getLsbD_eq
  intro i hi
  simp [hi]
def bI (b : Bool) : Int32 := if b = true then 1 else 0
theorem bI_or (b : Bool) : bI b = 0 ∨ bI b = 1 := by cases b <;> simp [bI]
theorem bI_t : bI true = 1 := rfl
theorem bI_f : bI false = 0 := rfl
theorem bI_0 {b : Bool} (h : bI b = 0) : b = false := by cases b <;> simp_all [bI]
theorem bI_n0 {b : Bool} (h : ¬ bI b = 0) : b = true := by cases b <;> simp_all [bI]
def aw_is (G : aw_G) (a c : Nat) : Prop := a < aw_N G ∧ (aw_sh (aw_n G) a).1 = c + 3
def aw_ar (G : aw_G) (a t z : Nat) : Prop := a < aw_N G ∧ aw_sh (aw_n G) a = (t, z)
section AN
variable {M : aw_M} {G : aw_G} {cc : ByteArray} {nL d pc q : Nat} {own : String} {ls : List (Option aw_V)} {st : List aw_V} {h : aw_H}
theorem ax_top {x y : Int32} (e : x = y) (k : aw_X M G nL pc ls (.inr y :: st) h) : aw_X M G nL pc ls (.inr x :: st) h := by
  subst e
  exact k
theorem ax_heap {h' : aw_H} (e : h = h') (k : aw_X M G nL pc ls st h') : aw_X M G nL pc ls st h := by
  subst e
  exact k
theorem ax_iaddN (B : aw_B M G cc nL own d) {a b : Nat} (hd : decode cc pc = .ok (.iadd, 1)) (hq : pc + 1 = q) (k : aw_X M G nL q ls (.inr (nI (a + b)) :: st) h) : aw_X M G nL pc ls (.inr (nI b) :: .inr (nI a) :: st) h := ax_iadd B hd hq (by rw [nI_add]; exact k)
theorem ax_imulN (B : aw_B M G cc nL own d) {a b : Nat} (hd : decode cc pc = .ok (.imul, 1)) (hq : pc + 1 = q) (k : aw_X M G nL q ls (.inr (nI (a * b)) :: st) h) : aw_X M G nL pc ls (.inr (nI b) :: .inr (nI a) :: st) h := ax_imul B hd hq (by rw [pk_mul]; exact k)
theorem ax_isubN (B : aw_B M G cc nL own d) {a b : Nat} (hab : b ≤ a) (hd : decode cc pc = .ok (.isub, 1)) (hq : pc + 1 = q) (k : aw_X M G nL q ls (.inr (nI (a - b)) :: st) h) : aw_X M G nL pc ls (.inr (nI b) :: .inr (nI a) :: st) h := ax_isub B hd hq (by rw [pk_sub hab]; exact k)
theorem ax_ixorN (B : aw_B M G cc nL own d) {a b : Nat} (hd : decode cc pc = .ok (.ixor, 1)) (hq : pc + 1 = q) (k : aw_X M G nL q ls (.inr (nI (a ^^^ b)) :: st) h) : aw_X M G nL pc ls (.inr (nI b) :: .inr (nI a) :: st) h := ax_ixor B hd hq (by rw [nx_xor]; exact k)
theorem ax_idivN (B : aw_B M G cc nL own d) {a b : Nat} (ha : a < 2 ^ 31) (h0 : 0 < b) (hb : b < 2 ^ 31) (hd : decode cc pc = .ok (.idiv, 1)) (hq : pc + 1 = q) (k : aw_X M G nL q ls (.inr (nI (a / b)) :: st) h) : aw_X M G nL pc ls (.inr (nI b) :: .inr (nI a) :: st) h := ax_idiv B hd (nI_ne0 h0 hb) hq (by rw [pk_div ha h0 hb]; exact k)
theorem ax_iremN (B : aw_B M G cc nL own d) {a b : Nat} (ha : a < 2 ^ 31) (h0 : 0 < b) (hb : b < 2 ^ 31) (hd : decode cc pc = .ok (.irem, 1)) (hq : pc + 1 = q) (k : aw_X M G nL q ls (.inr (nI (a % b)) :: st) h) : aw_X M G nL pc ls (.inr (nI b) :: .inr (nI a) :: st) h := ax_irem B hd (nI_ne0 h0 hb) hq (by rw [pk_rem ha h0 hb]; exact k)
theorem ax_iandN (B : aw_B M G cc nL own d) {a b : Nat} (j : Nat) (ha : a < 2 ^ 32) (hb : (nI b).toBitVec.toNat = 2 ^ j - 1) (hd : decode cc pc = .ok (.iand, 1)) (hq : pc + 1 = q) (k : aw_X M G nL q ls (.inr (nI (a % 2 ^ j)) :: st) h) : aw_X M G nL pc ls (.inr (nI b) :: .inr (nI a) :: st) h := ax_iand B hd hq (by rw [pk_andN ha j hb]; exact k)
theorem ax_ishrN (B : aw_B M G cc nL own d) {a : Nat} {s : Int32} (j : Nat) (ha : a < 2 ^ 31) (hs : ((s &&& 31).toBitVec.smod 32).toNat = j) (hd : decode cc pc = .ok (.ishr, 1)) (hq : pc + 1 = q) (k : aw_X M G nL q ls (.inr (nI (a / 2 ^ j)) :: st) h) : aw_X M G nL pc ls (.inr s :: .inr (nI a) :: st) h := ax_ishr B hd hq (by rw [pk_shrN ha _ j hs]; exact k)
theorem ax_iushrN (B : aw_B M G cc nL own d) {a : Nat} {s : Int32} (j : Nat) (ha : a < 2 ^ 32) (hs : ((s.toUInt32 &&& Int32.toUInt32 31).toBitVec % 32).toNat = j) (hd : decode cc pc = .ok (.iushr, 1)) (hq : pc + 1 = q) (k : aw_X M G nL q ls (.inr (nI (a / 2 ^ j)) :: st) h) : aw_X M G nL pc ls (.inr s :: .inr (nI a) :: st) h := ax_iushr B hd hq (by rw [pk_ushrN ha _ j hs]; exact k)
theorem ax_iincN (B : aw_B M G cc nL own d) {i a j : Nat} {n : Int} (hd : decode cc pc = .ok (.iinc i n, 3)) (hx : ls[i]? = some (some (.inr (nI a)))) (hv : Int32.ofInt n = nI j) (hn : i < nL) (hq : pc + 3 = q) (k : aw_X M G nL q (ls.set i (some (.inr (nI (a + j))))) st h) : aw_X M G nL pc ls st h := ax_iinc B hd hx (by rw [hv, nI_add]) hn hq k
theorem ax_getN (B : aw_B M G cc nL own d) {ix c k a : Nat} {x : Int32} (F : aw_fl own ix c k) (hr : aw_rf c k = false) (hd : decode cc pc = .ok (.getfield ix, 3)) (ha : aw_is G a c) (hx : h a k = x) (hq : pc + 3 = q) (K : aw_X M G nL q ls (.inr x :: st) h) : aw_X M G nL pc ls (.inl (some a) :: st) h := ax_getI B F hr hd ha.1 ha.2 hq (by rw [hx]; exact K)
theorem ax_getP (B : aw_B M G cc nL own d) {ix c k a b : Nat} (F : aw_fl own ix c k) (hr : aw_rf c k = true) (hd : decode cc pc = .ok (.getfield ix, 3)) (ha : aw_is G a c) (hm : aw_rM a k = some b) (hq : pc + 3 = q) (K : aw_X M G nL q ls (.inl (some b) :: st) h) : aw_X M G nL pc ls (.inl (some a) :: st) h := ax_getR B F hr hd ha.1 ha.2 hm hq K
theorem ax_putN (B : aw_B M G cc nL own d) {ix c k a : Nat} {x : Int32} (F : aw_fp own ix c k .int) (hd : decode cc pc = .ok (.putfield ix, 3)) (ha : aw_is G a c) (hq : pc + 3 = q) (K : aw_X M G nL q ls st (aw_u h a k x)) : aw_X M G nL pc ls (.inr x :: .inl (some a) :: st) h := ax_putI B F hd ha.1 ha.2 hq K
theorem ax_putB (B : aw_B M G cc nL own d) {ix c k a : Nat} {x : Int32} (F : aw_fp own ix c k .boolean) (hx : x = 0 ∨ x = 1) (hd : decode cc pc = .ok (.putfield ix, 3)) (ha : aw_is G a c) (hq : pc + 3 = q) (K : aw_X M G nL q ls st (aw_u h a k x)) : aw_X M G nL pc ls (.inr x :: .inl (some a) :: st) h := ax_putZ B F hx hd ha.1 ha.2 hq K
theorem ax_ialdN (B : aw_B M G cc nL own d) {a z j : Nat} {i x : Int32} (hd : decode cc pc = .ok (.iaload, 1)) (ha : aw_ar G a 0 z) (hi : i = nI j) (hj : j < z) (hz : z < 2 ^ 31) (hx : h a j = x) (hq : pc + 1 = q) (K : aw_X M G nL q ls (.inr x :: st) h) : aw_X M G nL pc ls (.inr i :: .inl (some a) :: st) h := by
  subst hi
  refine ax_iald B hd ha.1 ha.2 (vp_in_nI hj hz) hq ?_
  rw [nI_clamp (by omega), hx]
  exact K
theorem ax_zaldN (B : aw_B M G cc nL own d) {a z j : Nat} {i x : Int32} (hd : decode cc pc = .ok (.baload, 1)) (ha : aw_ar G a 1 z) (hi : i = nI j) (hj : j < z) (hz : z < 2 ^ 31) (hx : h a j = x) (hq : pc + 1 = q) (K : aw_X M G nL q ls (.inr x :: st) h) : aw_X M G nL pc ls (.inr i :: .inl (some a) :: st) h := by
  subst hi
  refine ax_zald B hd ha.1 ha.2 (vp_in_nI hj hz) hq ?_
  rw [nI_clamp (by omega), hx]
  exact K
theorem ax_aaldN (B : aw_B M G cc nL own d) {a z j b : Nat} {i : Int32} (hd : decode cc pc = .ok (.aaload, 1)) (ha : aw_ar G a 2 z) (hi : i = nI j) (hj : j < z) (hz : z < 2 ^ 31) (hr : aw_rM a j = some b) (hq : pc + 1 = q) (K : aw_X M G nL q ls (.inl (some b) :: st) h) : aw_X M G nL pc ls (.inr i :: .inl (some a) :: st) h := by
  subst hi
  exact ax_aald B hd ha.1 ha.2 (vp_in_nI hj hz) (by rw [nI_clamp (by omega), hr]) hq K
theorem ax_iastN (B : aw_B M G cc nL own d) {a z j : Nat} {i x : Int32} (hd : decode cc pc = .ok (.iastore, 1)) (ha : aw_ar G a 0 z) (hi : i = nI j) (hj : j < z) (hz : z < 2 ^ 31) (hq : pc + 1 = q) (K : aw_X M G nL q ls st (aw_u h a j x)) : aw_X M G nL pc ls (.inr x :: .inr i :: .inl (some a) :: st) h := by
  subst hi
  refine ax_iast B hd ha.1 ha.2 (vp_in_nI hj hz) hq ?_
  rw [nI_clamp (by omega)]
  exact K
theorem ax_zastN (B : aw_B M G cc nL own d) {a z j : Nat} {i x : Int32} (hd : decode cc pc = .ok (.bastore, 1)) (ha : aw_ar G a 1 z) (hi : i = nI j) (hj : j < z) (hz : z < 2 ^ 31) (hx : x = 0 ∨ x = 1) (hq : pc + 1 = q) (K : aw_X M G nL q ls st (aw_u h a j x)) : aw_X M G nL pc ls (.inr x :: .inr i :: .inl (some a) :: st) h := by
  subst hi
  refine ax_zast B hd ha.1 ha.2 (vp_in_nI hj hz) hq ?_
  rw [nI_clamp (by omega), show vp_nar .boolean x = x by rcases hx with rfl | rfl <;> rfl]
  exact K
theorem ax_cV (B : aw_B M G cc nL own d) {ix c n d' a : Nat} {y : aw_Y} {as rs : List aw_V} {post : Option aw_V → aw_H → Prop} (V : aw_cv own ix y c n) (hd : decode cc pc = .ok (.invokevirtual ix, 3)) (ha : aw_is G a c) (hn : as.length = n) (hrs : as.reverse = rs) (hst : st.length ≤ 8) (hdd : d' < d)
    (C : aw_C M.2.1 G d' y (.inl (some a) :: as) h post) (hq : pc + 3 = q) (K : ∀ r h', post r h' → aw_X M G nL q ls (r.toList ++ st) h') : aw_X M G nL pc ls (rs ++ .inl (some a) :: st) h := ax_callV B V hd ha.1 ha.2 hn hrs hst hdd C hq K
theorem ax_ifZ_eq (B : aw_B M G cc nL own d) {b : Bool} {off : Int} {q2 : Nat} (hd : decode cc pc = .ok (.ifCond .eq off, 3)) (hq : (pc : Int) + off = (q : Int)) (hq2 : pc + 3 = q2) (kt : b = false → aw_X M G nL q ls st h) (kf : b = true → aw_X M G nL q2 ls st h) : aw_X M G nL pc ls (.inr (bI b) :: st) h := ax_if_eq B hd hq hq2 (fun z => kt (bI_0 z)) (fun z => kf (bI_n0 z))
theorem ax_ifZ_ne (B : aw_B M G cc nL own d) {b : Bool} {off : Int} {q2 : Nat} (hd : decode cc pc = .ok (.ifCond .ne off, 3)) (hq : (pc : Int) + off = (q : Int)) (hq2 : pc + 3 = q2) (kt : b = true → aw_X M G nL q ls st h) (kf : b = false → aw_X M G nL q2 ls st h) : aw_X M G nL pc ls (.inr (bI b) :: st) h := ax_if_ne B hd hq hq2 (fun z => kt (bI_n0 z)) (fun z => kf (bI_0 z))
theorem ax_ifN_eq (B : aw_B M G cc nL own d) {a : Nat} (ha : a < 2 ^ 31) {off : Int} {q2 : Nat} (hd : decode cc pc = .ok (.ifCond .eq off, 3)) (hq : (pc : Int) + off = (q : Int)) (hq2 : pc + 3 = q2) (kt : a = 0 → aw_X M G nL q ls st h) (kf : 0 < a → aw_X M G nL q2 ls st h) : aw_X M G nL pc ls (.inr (nI a) :: st) h := ax_if_eq B hd hq hq2 (fun z => kt (Nat.eq_zero_of_not_pos (fun w => nI_ne0 w ha z))) (fun z => kf (Nat.pos_of_ne_zero (fun w => z (by rw [w]; rfl))))
theorem ax_ifN_ne (B : aw_B M G cc nL own d) {a : Nat} (ha : a < 2 ^ 31) {off : Int} {q2 : Nat} (hd : decode cc pc = .ok (.ifCond .ne off, 3)) (hq : (pc : Int) + off = (q : Int)) (hq2 : pc + 3 = q2) (kt : 0 < a → aw_X M G nL q ls st h) (kf : a = 0 → aw_X M G nL q2 ls st h) : aw_X M G nL pc ls (.inr (nI a) :: st) h := ax_if_ne B hd hq hq2 (fun z => kt (Nat.pos_of_ne_zero (fun w => z (by rw [w]; rfl)))) (fun z => kf (Nat.eq_zero_of_not_pos (fun w => nI_ne0 w ha z)))
theorem ax_ifN_gt (B : aw_B M G cc nL own d) {a : Nat} (ha : a < 2 ^ 31) {off : Int} {q2 : Nat} (hd : decode cc pc = .ok (.ifCond .gt off, 3)) (hq : (pc : Int) + off = (q : Int)) (hq2 : pc + 3 = q2) (kt : 0 < a → aw_X M G nL q ls st h) (kf : a = 0 → aw_X M G nL q2 ls st h) : aw_X M G nL pc ls (.inr (nI a) :: st) h := ax_if_gt B hd hq hq2 (fun z => kt (Nat.pos_of_ne_zero (fun w => absurd z (by subst w; decide)))) (fun z => kf (Nat.eq_zero_of_not_pos (fun w => z (nI_lt (a := 0) w ha))))
theorem ax_ifN_le (B : aw_B M G cc nL own d) {a : Nat} (ha : a < 2 ^ 31) {off : Int} {q2 : Nat} (hd : decode cc pc = .ok (.ifCond .le off, 3)) (hq : (pc : Int) + off = (q : Int)) (hq2 : pc + 3 = q2) (kt : a = 0 → aw_X M G nL q ls st h) (kf : 0 < a → aw_X M G nL q2 ls st h) : aw_X M G nL pc ls (.inr (nI a) :: st) h := ax_if_le B hd hq hq2 (fun z => kt (Nat.eq_zero_of_not_pos (fun w => nI_nle w ha z))) (fun z => kf (Nat.pos_of_ne_zero (fun w => z (by subst w; decide))))
theorem ax_ifN_lt (B : aw_B M G cc nL own d) {a : Nat} (ha : a < 2 ^ 31) {off : Int} {q2 : Nat} (hd : decode cc pc = .ok (.ifCond .lt off, 3)) (hq : (pc : Int) + off = (q : Int)) (hq2 : pc + 3 = q2) (kf : aw_X M G nL q2 ls st h) : aw_X M G nL pc ls (.inr (nI a) :: st) h := ax_if_lt B hd hq hq2 (fun z => absurd z (nI_pos ha)) (fun _ => kf)
theorem ax_ifN_ge (B : aw_B M G cc nL own d) {a : Nat} (ha : a < 2 ^ 31) {off : Int} {q2 : Nat} (hd : decode cc pc = .ok (.ifCond .ge off, 3)) (hq : (pc : Int) + off = (q : Int)) (hq2 : pc + 3 = q2) (kt : aw_X M G nL q ls st h) : aw_X M G nL pc ls (.inr (nI a) :: st) h := ax_if_ge B hd hq hq2 (fun _ => kt) (fun z => absurd (nI_pos' ha) z)
theorem ax_icmpN_eq (B : aw_B M G cc nL own d) {a b : Nat} (ha : a < 2 ^ 31) (hb : b < 2 ^ 31) {off : Int} {q2 : Nat} (hd : decode cc pc = .ok (.if_icmp .eq off, 3)) (hq : (pc : Int) + off = (q : Int)) (hq2 : pc + 3 = q2) (kt : a = b → aw_X M G nL q ls st h) (kf : a ≠ b → aw_X M G nL q2 ls st h) : aw_X M G nL pc ls (.inr (nI b) :: .inr (nI a) :: st) h := ax_icmp_eq B hd hq hq2 (fun z => kt ((nI_eq ha hb).mp z)) (fun z => kf (fun w => z ((nI_eq ha hb).mpr w)))
theorem ax_icmpN_ne (B : aw_B M G cc nL own d) {a b : Nat} (ha : a < 2 ^ 31) (hb : b < 2 ^ 31) {off : Int} {q2 : Nat} (hd : decode cc pc = .ok (.if_icmp .ne off, 3)) (hq : (pc : Int) + off = (q : Int)) (hq2 : pc + 3 = q2) (kt : a ≠ b → aw_X M G nL q ls st h) (kf : a = b → aw_X M G nL q2 ls st h) : aw_X M G nL pc ls (.inr (nI b) :: .inr (nI a) :: st) h := ax_icmp_ne B hd hq hq2 (fun z => kt (fun w => z ((nI_eq ha hb).mpr w))) (fun z => kf ((nI_eq ha hb).mp z))
theorem ax_icmpN_lt (B : aw_B M G cc nL own d) {a b : Nat} (ha : a < 2 ^ 31) (hb : b < 2 ^ 31) {off : Int} {q2 : Nat} (hd : decode cc pc = .ok (.if_icmp .lt off, 3)) (hq : (pc : Int) + off = (q : Int)) (hq2 : pc + 3 = q2) (kt : a < b → aw_X M G nL q ls st h) (kf : b ≤ a → aw_X M G nL q2 ls st h) : aw_X M G nL pc ls (.inr (nI b) :: .inr (nI a) :: st) h := ax_icmp_lt B hd hq hq2 (fun z => kt ((nI_ltI ha hb).mp z)) (fun z => kf (Nat.le_of_not_lt (fun w => z ((nI_ltI ha hb).mpr w))))
theorem ax_icmpN_ge (B : aw_B M G cc nL own d) {a b : Nat} (ha : a < 2 ^ 31) (hb : b < 2 ^ 31) {off : Int} {q2 : Nat} (hd : decode cc pc = .ok (.if_icmp .ge off, 3)) (hq : (pc : Int) + off = (q : Int)) (hq2 : pc + 3 = q2) (kt : b ≤ a → aw_X M G nL q ls st h) (kf : a < b → aw_X M G nL q2 ls st h) : aw_X M G nL pc ls (.inr (nI b) :: .inr (nI a) :: st) h := ax_icmp_ge B hd hq hq2 (fun z => kt ((nI_leI hb ha).mp z)) (fun z => kf (Nat.lt_of_not_le (fun w => z ((nI_leI hb ha).mpr w))))
theorem ax_icmpN_gt (B : aw_B M G cc nL own d) {a b : Nat} (ha : a < 2 ^ 31) (hb : b < 2 ^ 31) {off : Int} {q2 : Nat} (hd : decode cc pc = .ok (.if_icmp .gt off, 3)) (hq : (pc : Int) + off = (q : Int)) (hq2 : pc + 3 = q2) (kt : b < a → aw_X M G nL q ls st h) (kf : a ≤ b → aw_X M G nL q2 ls st h) : aw_X M G nL pc ls (.inr (nI b) :: .inr (nI a) :: st) h := ax_icmp_gt B hd hq hq2 (fun z => kt ((nI_ltI hb ha).mp z)) (fun z => kf (Nat.le_of_not_lt (fun w => z ((nI_ltI hb ha).mpr w))))
theorem ax_icmpN_le (B : aw_B M G cc nL own d) {a b : Nat} (ha : a < 2 ^ 31) (hb : b < 2 ^ 31) {off : Int} {q2 : Nat} (hd : decode cc pc = .ok (.if_icmp .le off, 3)) (hq : (pc : Int) + off = (q : Int)) (hq2 : pc + 3 = q2) (kt : a ≤ b → aw_X M G nL q ls st h) (kf : b < a → aw_X M G nL q2 ls st h) : aw_X M G nL pc ls (.inr (nI b) :: .inr (nI a) :: st) h := ax_icmp_le B hd hq hq2 (fun z => kt ((nI_leI ha hb).mp z)) (fun z => kf (Nat.lt_of_not_le (fun w => z ((nI_leI ha hb).mpr w))))
end AN
