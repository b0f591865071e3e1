-- PURE 1: numbers, blocks of memory, the leaves. The rows wb_ are pasted from kit/laws/BITS.to-paste
theorem wb_tb (n : Nat) : (lN n).toBitVec = BitVec.ofNat 64 n := rfl
theorem wb_inj {a b : Int64} (h : a.toBitVec = b.toBitVec) : a = b := Int64.toBitVec_inj.mp h
theorem wb_tn {n : Nat} (h : n < 2 ^ 64) : (lN n).toBitVec.toNat = n := by rw [wb_tb, BitVec.toNat_ofNat, Nat.mod_eq_of_lt h]
theorem wb_of (x : Int64) : ∃ n, n < 2 ^ 64 ∧ x = lN n := ⟨x.toBitVec.toNat, x.toBitVec.isLt, wb_inj (by rw [wb_tb]; simp)⟩
theorem wb_of32 (x : Int32) : ∃ n, n < 2 ^ 32 ∧ x = nI n := ⟨x.toBitVec.toNat, x.toBitVec.isLt, Int32.toBitVec_inj.mp (by show _ = BitVec.ofNat 32 _; simp)⟩
theorem wb_c : ∀ k, k < 64 → ((nI k).toInt64 &&& 63) = lN k := by decide +kernel
theorem wb_cu : ∀ k, k < 64 → ((nI k).toInt64.toUInt64 &&& Int64.toUInt64 63) = UInt64.ofNat k := by decide +kernel
theorem wb_sm : ∀ k, k < 64 → (BitVec.ofNat 64 k).smod 64 = BitVec.ofNat 64 k := by decide +kernel
theorem wb_pw {a b : Nat} (h : a ≤ b) : 2 ^ b = 2 ^ a * 2 ^ (b - a) := by rw [← Nat.pow_add]; congr 1; omega
theorem wb_lt2 {a b : Nat} (h : a < b) : 2 ^ a < 2 ^ b := Nat.pow_lt_pow_right (by decide) h
theorem wb_mod (n : Nat) : lN n = lN (n % 2 ^ 64) := wb_inj (by rw [wb_tb, wb_tb]; apply BitVec.eq_of_toNat_eq; rw [BitVec.toNat_ofNat, BitVec.toNat_ofNat, Nat.mod_mod])
theorem wb_shr {n k : Nat} (hn : n < 2 ^ 64) (hk : k < 64) : ((lN n).toUInt64 >>> ((nI k).toInt64.toUInt64 &&& Int64.toUInt64 63)).toInt64 = lN (n / 2 ^ k) := by
  rw [wb_cu k hk]
  apply wb_inj
  apply BitVec.eq_of_toNat_eq
  show ((lN n).toUInt64 >>> UInt64.ofNat k).toNat = (BitVec.ofNat 64 _).toNat
  have h1 : (UInt64.ofNat k).toNat = k := by
    show (BitVec.ofNat 64 k).toNat = k
    rw [BitVec.toNat_ofNat, Nat.mod_eq_of_lt (by omega)]
  have h2 : (lN n).toUInt64.toNat = n := wb_tn hn
  rw [UInt64.toNat_shiftRight, h1, h2, Nat.mod_eq_of_lt hk, Nat.shiftRight_eq_div_pow, BitVec.toNat_ofNat, Nat.mod_eq_of_lt (Nat.lt_of_le_of_lt (Nat.div_le_self _ _) hn)]
theorem wb_shl (n : Nat) {k : Nat} (hk : k < 64) : lN n <<< ((nI k).toInt64 &&& 63) = lN (n * 2 ^ k) := by
  rw [wb_c k hk]
  apply wb_inj
  rw [Int64.toBitVec_shiftLeft, wb_tb, wb_tb, wb_tb, wb_sm k hk]
  apply BitVec.eq_of_toNat_eq
  rw [BitVec.shiftLeft_eq', BitVec.toNat_shiftLeft, BitVec.toNat_ofNat, BitVec.toNat_ofNat, BitVec.toNat_ofNat, Nat.mod_eq_of_lt (show k < 2 ^ 64 by omega), Nat.shiftLeft_eq, Nat.mul_mod, Nat.mod_mod, ← Nat.mul_mod]
theorem for_up {N : Nat} {P : Nat → Prop} (hN : P N) (hs : ∀ i, i < N → P (i + 1) → P i) (i : Nat) (hi : i ≤ N) : P i := by
  have key : ∀ d i, i + d = N → P i := by
    intro d
    induction d with
    | zero => intro i h; have e : i = N := by omega
              rw [e]; exact hN
    | succ d ih => intro i h; exact hs i (by omega) (ih (i + 1) (by omega))
  exact key (N - i) i (by omega)
theorem bs_t {c A B : Prop} (h : ¬ c) (a : A) : (¬ c → A) ∧ (c → B) := ⟨fun _ => a, fun q => absurd q h⟩
theorem bs_f {c A B : Prop} (h : c) (b : B) : (¬ c → A) ∧ (c → B) := ⟨fun q => absurd h q, fun _ => b⟩
theorem bs_c {c A B : Prop} (a : ¬ c → A) (b : c → B) : (¬ c → A) ∧ (c → B) := ⟨a, b⟩
theorem i_lt {x y : Int32} : x < y ↔ x.toInt < y.toInt := Int32.lt_iff_toInt_lt
theorem i_le {x y : Int32} : x ≤ y ↔ x.toInt ≤ y.toInt := Int32.le_iff_toInt_le
theorem i_rng (x : Int32) : -2147483648 ≤ x.toInt ∧ x.toInt < 2147483648 := ⟨by have := x.le_toInt; omega, by have := x.toInt_lt; omega⟩
theorem i_nI {x : Int32} (h : 0 ≤ x.toInt) : x = nI x.toInt.toNat := by
  apply Int32.toInt_inj.mp
  have := i_rng x
  rw [nI_toInt (by omega)]
  omega
theorem i_add {x y : Int32} (h : -2147483648 ≤ x.toInt + y.toInt) (h2 : x.toInt + y.toInt < 2147483648) : (x + y).toInt = x.toInt + y.toInt := by
  rw [Int32.toInt_add, Int.bmod_eq_of_le (by omega) (by omega)]
theorem i_sub {x y : Int32} (h : -2147483648 ≤ x.toInt - y.toInt) (h2 : x.toInt - y.toInt < 2147483648) : (x - y).toInt = x.toInt - y.toInt := by
  rw [Int32.toInt_sub, Int.bmod_eq_of_le (by omega) (by omega)]
theorem l_ti (x : Int32) : x.toInt64.toInt = x.toInt := Int32.toInt_toInt64 x
theorem l_add {x y : Int64} (h : -9223372036854775808 ≤ x.toInt + y.toInt) (h2 : x.toInt + y.toInt < 9223372036854775808) : (x + y).toInt = x.toInt + y.toInt := by
  rw [Int64.toInt_add, Int.bmod_eq_of_le (by omega) (by omega)]
/-- k octets from an address on lie within MEMORY -/
def inM (a : Int) (k : Nat) : Prop := k = 0 ∨ (0 ≤ a ∧ a + k ≤ 4096)
noncomputable def inMb (a : Int) (k : Nat) : Int32 := by classical exact if inM a k then 1 else 0
theorem inMb_t {a : Int} {k : Nat} (h : inM a k) : inMb a k = 1 := by unfold inMb; rw [if_pos h]
theorem inMb_f {a : Int} {k : Nat} (h : ¬ inM a k) : inMb a k = 0 := by unfold inMb; rw [if_neg h]
def blk (f : Nat → Int32) (a : Nat) (w : Nat → Int32) (k : Nat) : Nat → Int32 := fun j => if a ≤ j ∧ j < a + k then w (j - a) else f j
theorem blk_0 (f : Nat → Int32) (a : Nat) (w : Nat → Int32) : blk f a w 0 = f := by
  funext j
  unfold blk
  rw [if_neg (by omega)]
theorem blk_s (f : Nat → Int32) (a : Nat) (w : Nat → Int32) (k : Nat) : upd (blk f a w k) (a + k) (w k) = blk f a w (k + 1) := by
  funext j
  by_cases e : j = a + k
  · subst e
    rw [pk_us]
    unfold blk
    rw [if_pos ⟨by omega, by omega⟩]
    congr 1
    omega
  · rw [pk_un e]
    unfold blk
    by_cases q : a ≤ j ∧ j < a + k
    · rw [if_pos q, if_pos ⟨q.1, by omega⟩]
    · rw [if_neg q, if_neg (by omega)]
/-- the octet of a long that s bits stand behind -/
def oc8 (v : Int64) (s : Nat) : Int32 := nI (v.toBitVec.toNat / 2 ^ s % 256)
theorem oc8_lt (v : Int64) (s : Nat) : ∃ n, n < 256 ∧ oc8 v s = nI n := ⟨_, Nat.mod_lt _ (by decide), rfl⟩
theorem n255 {n : Nat} (h : n < 256) : nI n &&& 255 = nI n := by
  rw [pk_andN (m := 255) (by omega) 8 (by decide), Nat.mod_eq_of_lt (by omega)]
theorem oc8_255 (v : Int64) (s : Nat) : oc8 v s &&& 255 = oc8 v s := n255 (Nat.mod_lt _ (by decide))
theorem oc8_u (v : Int64) {s : Nat} (hs : s < 64) : (Int64.toInt32 ((Int64.toUInt64 v >>> ((Int32.toInt64 (nI s)).toUInt64 &&& Int64.toUInt64 63)).toInt64)) &&& 255 = oc8 v s := by
  obtain ⟨n, hn, rfl⟩ := wb_of v
  rw [wb_shr hn hs, lN_i, pk_and _ 8 (by decide)]
  unfold oc8
  rw [wb_tn hn]
  congr 1
  show (BitVec.ofNat 32 _).toNat % 2 ^ 8 = _
  rw [BitVec.toNat_ofNat]
  exact Nat.mod_mod_of_dvd _ (by decide)
theorem oc8_s (v : Int64) {s : Nat} (hs : s ≤ 56) : Int64.toInt32 ((v >>> (Int32.toInt64 (nI s) &&& 63)) &&& 255) = oc8 v s := by
  rw [wb_c s (by omega)]
  have e : (v >>> lN s) &&& 255 = lN (v.toBitVec.toNat / 2 ^ s % 256) := by
    apply wb_inj
    rw [Int64.toBitVec_and, Int64.toBitVec_shiftRight, wb_tb, wb_tb, wb_sm s (by omega)]
    apply BitVec.eq_of_getLsbD_eq
    intro i hi
    have e1 : (BitVec.ofNat 64 s).toNat = s := by rw [BitVec.toNat_ofNat]; exact Nat.mod_eq_of_lt (by omega)
    have e2 : (Int64.toBitVec 255).getLsbD i = decide (i < 8) := by
      revert i
      decide +kernel
    rw [BitVec.getLsbD_and, e2]
    show (BitVec.getLsbD (BitVec.sshiftRight v.toBitVec (BitVec.ofNat 64 s).toNat) i && _) = _
    rw [e1, BitVec.getLsbD_sshiftRight, BitVec.getLsbD_ofNat]
    have e3 : v.toBitVec.getLsbD (s + i) = Nat.testBit v.toBitVec.toNat (s + i) := rfl
    by_cases h8 : i < 8
    · rw [show (v.toBitVec.toNat / 2 ^ s % 256).testBit i = (v.toBitVec.toNat).testBit (s + i) from by
        rw [show (256 : Nat) = 2 ^ 8 from rfl, Nat.testBit_mod_two_pow, Nat.testBit_div_two_pow]; simp [h8, Nat.add_comm]]
      have h64 : s + i < 64 := by omega
      have h64' : ¬ 64 ≤ i := by omega
      rw [e3]
      simp only [h8, hi, h64, decide_true, Bool.and_true, Bool.true_and, if_true, Nat.not_le.mpr hi, decide_false, Bool.not_false, if_pos]
    · rw [show (v.toBitVec.toNat / 2 ^ s % 256).testBit i = false from by
        rw [show (256 : Nat) = 2 ^ 8 from rfl, Nat.testBit_mod_two_pow]; simp [h8]]
      simp [h8]
  rw [e, lN_i]
  rfl
theorem sh8 {n i : Nat} (h : i < n) : (8 : Int32) * ((nI n - 1) - nI i) = nI (8 * (n - 1 - i)) := by
  rw [show (nI n - 1 : Int32) = nI (n - 1) from pk_sub (b := 1) (by omega), pk_sub (by omega)]
  exact pk_mul 8 _
theorem ok_octet {f : Nat → Int32} {j : Nat} {K : Int32 → Prop} (hj : j < 4096) (h : K (f j)) : wp_X4_octet f (nI j) K := by
  refine br_f (nI_pos (by omega)) (br_f (nI_ge (b := 4096) hj (by decide)) ⟨vp_in_nI hj (by decide), ?_⟩)
  rw [nI_clamp (by omega)]
  exact h
theorem ok_setOctet {f : Nat → Int32} {j : Nat} {x : Int32} {K : (Nat → Int32) → Prop} (hj : j < 4096) (h : K (upd f j (x &&& 255))) : wp_X4_setOctet f (nI j) x K := by
  refine br_f (nI_pos (by omega)) (br_f (nI_ge (b := 4096) hj (by decide)) ⟨vp_in_nI hj (by decide), ?_⟩)
  rw [nI_clamp (by omega)]
  exact h
theorem ok_holds {a : Int32} {k : Nat} {K : Int32 → Prop} (hk : k < 2 ^ 30) (h : K (inMb a.toInt k)) : wp_X4_holds a (nI k) K := by
  have z : (0 : Int32).toInt = 0 := rfl
  have hk2 : (nI k).toInt = k := nI_toInt (by omega)
  have hs : ((4096 : Int32) - nI k).toInt = 4096 - k := pk_sub_toInt (a := 4096) (by decide) hk
  refine br_c (fun c => ?_) (fun c => br_c (fun c1 => ?_) (fun c1 => br_c (fun c2 => ?_) (fun c2 => ?_)))
  · rw [i_le, hk2, z] at c
    rw [inMb_t (Or.inl (by omega))] at h
    exact h
  all_goals rw [i_le, hk2, z] at c
  all_goals rw [i_lt, z] at c1
  · rw [inMb_f (by unfold inM; omega)] at h
    exact h
  all_goals rw [i_lt, hs] at c2
  · rw [inMb_f (by unfold inM; omega)] at h
    exact h
  · rw [inMb_t (by unfold inM; omega)] at h
    exact h
theorem ok_within {a b : Int64} {k : Nat} {K : Int32 → Prop} (hb : b.toInt = k) (hk : k < 2 ^ 40) (ha : -(2 ^ 40) < a.toInt) (ha2 : a.toInt < 2 ^ 40) (h : K (inMb a.toInt k)) : wp_X10_within a b K := by
  have hab : (a + b).toInt = a.toInt + k := by rw [l_add (by omega) (by omega), hb]
  have c0 : (lg_cmp b 0 = 0) ↔ k = 0 := by
    rw [lg_cmp_eq]
    rw [← Int64.toInt_inj, hb]
    show (k : Int) = 0 ↔ _
    omega
  have c1 : (lg_cmp a 0 < 0) ↔ a.toInt < 0 := by
    rw [lg_cmp_lt, Int64.lt_iff_toInt_lt]
    rfl
  have c2 : (0 < lg_cmp (a + b) 4096) ↔ 4096 < a.toInt + k := by
    rw [lg_cmp_gt, Int64.lt_iff_toInt_lt, hab]
    rfl
  refine br_c (fun c => ?_) (fun c => br_c (fun d => ?_) (fun d => br_c (fun e => ?_) (fun e => ?_)))
  · rw [c0] at c
    rw [inMb_t (Or.inl c)] at h
    exact h
  all_goals rw [c0] at c
  all_goals rw [c1] at d
  · rw [inMb_f (by unfold inM; omega)] at h
    exact h
  all_goals rw [c2] at e
  · rw [inMb_f (by unfold inM; omega)] at h
    exact h
  · rw [inMb_t (by unfold inM; omega)] at h
    exact h
