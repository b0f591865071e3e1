-- PURE 15: laying down, the clock. The rows bt, s_l, s_u, b_ushr, b_sshr are pasted from kit/laws/BITS.to-paste
def bt (x : Int32) (i : Nat) : Bool := x.toBitVec.getLsbD i
theorem s_l : ∀ n, n < 32 → ((nI n &&& 31).toBitVec.smod 32).toNat = n := by decide +kernel
theorem s_u : ∀ n, n < 32 → (((nI n).toUInt32 &&& Int32.toUInt32 31).toBitVec % 32).toNat = n := by decide +kernel
theorem b_ushr (n : Nat) (hn : n < 32) (x : Int32) (i : Nat) : bt ((x.toUInt32 >>> ((nI n).toUInt32 &&& Int32.toUInt32 31)).toInt32) i = bt x (n + i) := by
  show (x.toUInt32 >>> ((nI n).toUInt32 &&& Int32.toUInt32 31)).toBitVec.getLsbD i = x.toUInt32.toBitVec.getLsbD (n + i)
  rw [UInt32.toBitVec_shiftRight]
  show (x.toUInt32.toBitVec >>> (((nI n).toUInt32 &&& Int32.toUInt32 31).toBitVec % 32).toNat).getLsbD i = _
  rw [s_u n hn, BitVec.getLsbD_ushiftRight]
theorem b_sshr (n : Nat) (hn : n < 32) (x : Int32) {i : Nat} (hi : i < 32) : bt (x >>> (nI n &&& 31)) i = if n + i < 32 then bt x (n + i) else bt x 31 := by
  unfold bt
  rw [Int32.toBitVec_shiftRight]
  show (x.toBitVec.sshiftRight ((nI n &&& 31).toBitVec.smod 32).toNat).getLsbD i = _
  rw [s_l n hn, BitVec.getLsbD_sshiftRight, BitVec.msb_eq_getLsbD_last]
  simp [hi]
theorem and1 (x : Int32) : (x &&& 1 = 1) ↔ bt x 0 = true := by
  rw [pk_and x (m := 1) 1 (by decide)]
  have e : bt x 0 = decide (x.toBitVec.toNat % 2 = 1) := Nat.testBit_zero _
  rw [e, decide_eq_true_iff]
  have : x.toBitVec.toNat % 2 ^ 1 < 2 := Nat.mod_lt _ (by decide)
  exact nI_eq (b := 1) (by omega) (by decide)
def layF (V : Nat) (f : Nat → Int32) (t n : Nat) (cd : Nat → Int32) : Nat → Int32 := if V ≤ 4 then upd (blk f (t + 1) cd n) (t + 1 + n) 0 else upd (blk f (t + 2) cd n) (t + 1) (nI n)
theorem layF_congr {V : Nat} {f : Nat → Int32} {t n : Nat} {cd cd' : Nat → Int32} (h : ∀ i, i < n → cd i = cd' i) : layF V f t n cd = layF V f t n cd' := by
  unfold layF
  rw [blk_congr h, blk_congr h]
theorem layF_byt {V : Nat} {f : Nat → Int32} {t n : Nat} {cd : Nat → Int32} (hB : Byt f) (hn : n ≤ 255) (h : ∀ i, i < n → ∃ c, c < 256 ∧ cd i = nI c) : Byt (layF V f t n cd) := by
  unfold layF
  split
  · exact (hB.of_blk h).of_upd (n := 0) (by decide)
  · exact (hB.of_blk h).of_upd (by omega)
theorem ok_counts {V : Nat} {K : Int32 → Prop} (hV : V < 9) (h : K (cntV V)) : wp_X9_countsCodes (nI V) K := by
  by_cases q : V ≤ 4
  · have e : cntV V = 0 := if_pos q
    rw [e] at h
    exact br_t (nI_lt (b := 5) (by omega) (by decide)) h
  · have e : cntV V = 1 := if_neg q
    rw [e] at h
    exact br_f (nI_nlt (b := 5) (by omega) (by omega)) h
theorem ok_layC {V t n : Nat} {f cd : Nat → Int32} {K : (Nat → Int32) → Prop} (hV : V < 9) (hn : n ≤ 255) (h4 : t + 2 + n ≤ 4096) (hc : ∀ i, i < n → ∃ c, c < 256 ∧ cd i = nI c) (h : K (layF V f t n cd)) : wp_X9_layDownCodes (nI V) f (nI t) (nI n) cd K := by
  have main : ∀ (o : Nat), o + n ≤ 4096 → (∀ g, g = blk f o cd n → wp_X9_countsCodes (nI V) (fun r_2 => ((r_2 = 0) → wp_X4_setOctet g (nI o + nI n) 0 (fun m => K m)) ∧ ((¬ r_2 = 0) → wp_X4_setOctet g (nI t + 1) (nI n) (fun m => K m)))) → ∀ {L : Int32 → (Nat → Int32) → Prop}, (∀ (x : Int32) (g : Nat → Int32), (((nI n ≤ x) → wp_X9_countsCodes (nI V) (fun r_2 => ((r_2 = 0) → wp_X4_setOctet g (nI o + nI n) 0 (fun m => K m)) ∧ ((¬ r_2 = 0) → wp_X4_setOctet g (nI t + 1) (nI n) (fun m => K m)))) ∧ ((¬ nI n ≤ x) → wp_X7_code (nI n) cd x (fun r_3 => wp_X4_setOctet g (nI o + x) r_3 (fun m => L (x + 1) m)))) → L x g) → L 0 f := by
    intro o ho hx L hL
    have key : ∀ i, i ≤ n → L (nI i) (blk f o cd i) := by
      refine for_up (P := fun i => L (nI i) (blk f o cd i)) ?_ (fun i hi ih => ?_)
      · exact hL _ _ (br_t (nI_le (Nat.le_refl _) (by omega)) (hx _ rfl))
      · refine hL _ _ (br_f (nI_ge hi (by omega)) (ok_code7 hi hn ?_))
        obtain ⟨c, c1, c2⟩ := hc i hi
        rw [nI_add, nI_1]
        refine ok_setOctet (by omega) ?_
        rw [c2, n255 c1, ← c2]
        rw [← blk_s] at ih
        exact ih
    have := key 0 (Nat.zero_le _)
    rw [blk_0, nI_0] at this
    exact this
  refine ok_counts hV ?_
  intro J hJ
  by_cases q : V ≤ 4
  · have e : cntV V = 0 := if_pos q
    have el : layF V f t n cd = upd (blk f (t + 1) cd n) (t + 1 + n) 0 := if_pos q
    rw [e]
    refine br_t rfl (hJ _ _ (nm_r (nI_1 t) (fun L hL => main (t + 1) (by omega) (fun g eg => ok_counts hV ?_) hL)))
    rw [e, nI_add]
    refine br_t rfl (ok_setOctet (by omega) ?_)
    rw [eg, show (0 : Int32) &&& 255 = 0 from rfl, ← el]
    exact h
  · have e : cntV V = 1 := if_neg q
    have el : layF V f t n cd = upd (blk f (t + 2) cd n) (t + 1) (nI n) := if_neg q
    rw [e]
    refine br_f (by decide) (hJ _ _ (nm_r (e' := nI (t + 2)) (nI_add t 2) (fun L hL => main (t + 2) (by omega) (fun g eg => ok_counts hV ?_) hL)))
    rw [e, nI_1]
    refine br_f (by decide) (ok_setOctet (by omega) ?_)
    rw [eg, n255 (by omega), ← el]
    exact h
theorem ok_layM {V t n : Nat} {f cd : Nat → Int32} {K : (Nat → Int32) → Prop} (hV : V < 9) (hn : n ≤ 255) (h4 : t + 2 + n ≤ 4096) (h : K (layF V f t n cd)) : wp_X10_layDown (nI V) f (nI t) cd (nI n) K := by
  have v4 : nI V ≤ 4 ↔ V ≤ 4 := nI_leI (b := 4) (by omega) (by decide)
  intro J hJ
  by_cases q : V ≤ 4
  · have el : layF V f t n cd = upd (blk f (t + 1) cd n) (t + 1 + n) 0 := if_pos q
    rw [nI_1]
    refine br_t (v4.mpr q) (hJ _ (fun L hL => ?_))
    have key : ∀ i, i ≤ n → L (nI i) (blk f (t + 1) cd i) := by
      refine for_up (P := fun i => L (nI i) (blk f (t + 1) cd i)) ?_ (fun i hi ih => ?_)
      · refine hL _ _ (br_t (nI_le (Nat.le_refl _) (by omega)) (br_t (v4.mpr q) ?_))
        rw [nI_add, nI_clamp (by omega), ← el]
        exact ⟨vp_in_nI (by omega) (by decide), h⟩
      · refine hL _ _ (br_f (nI_ge hi (by omega)) ⟨vp_in_nI (by omega) (by decide), ?_⟩)
        rw [nI_add, nI_clamp (by omega), nI_clamp (by omega), nI_1]
        rw [← blk_s] at ih
        exact ⟨vp_in_nI (by omega) (by decide), ih⟩
    have := key 0 (Nat.zero_le _)
    rw [blk_0, nI_0] at this
    exact this
  · have el : layF V f t n cd = upd (blk f (t + 2) cd n) (t + 1) (nI n) := if_neg q
    rw [show (nI t + 2 : Int32) = nI (t + 2) from nI_add t 2]
    refine br_f (fun w => q (v4.mp w)) (hJ _ (fun L hL => ?_))
    have key : ∀ i, i ≤ n → L (nI i) (blk f (t + 2) cd i) := by
      refine for_up (P := fun i => L (nI i) (blk f (t + 2) cd i)) ?_ (fun i hi ih => ?_)
      · refine hL _ _ (br_t (nI_le (Nat.le_refl _) (by omega)) (br_f (fun w => q (v4.mp w)) ?_))
        rw [nI_1, nI_clamp (by omega), ← el]
        exact ⟨vp_in_nI (by omega) (by decide), h⟩
      · refine hL _ _ (br_f (nI_ge hi (by omega)) ⟨vp_in_nI (by omega) (by decide), ?_⟩)
        rw [nI_add, nI_clamp (by omega), nI_clamp (by omega), nI_1]
        rw [← blk_s] at ih
        exact ⟨vp_in_nI (by omega) (by decide), ih⟩
    have := key 0 (Nat.zero_le _)
    rw [blk_0, nI_0] at this
    exact this
/-- the place of the first answer of 1 from i on, 32 if there is none -/
def fb (x : Int32) : Nat → Nat → Nat
  | 0, i => i
  | m + 1, i => if bt x i = true then i else fb x m (i + 1)
theorem fb_s (x : Int32) (m i : Nat) : fb x (m + 1) i = if bt x i = true then i else fb x m (i + 1) := rfl
theorem fb_ok (x : Int32) : ∀ m i, i ≤ fb x m i ∧ fb x m i ≤ i + m ∧ (∀ j, i ≤ j → j < fb x m i → bt x j = false) ∧ (fb x m i < i + m → bt x (fb x m i) = true) := by
  intro m
  induction m with
  | zero => intro i; exact ⟨Nat.le_refl _, Nat.le_refl _, fun j h1 h2 => absurd h2 (Nat.not_lt.mpr h1), fun h => absurd h (Nat.lt_irrefl _)⟩
  | succ m ih =>
    intro i
    rw [fb_s]
    obtain ⟨h1, h2, h3, h4⟩ := ih (i + 1)
    by_cases q : bt x i = true
    · rw [if_pos q]
      exact ⟨Nat.le_refl _, by omega, fun j h5 h6 => by omega, fun _ => q⟩
    · rw [if_neg q]
      refine ⟨by omega, by omega, fun j h5 h6 => ?_, fun h5 => h4 (by omega)⟩
      by_cases e : j = i
      · subst e; simpa using q
      · exact h3 j (by omega) h6
/-- how many calls the first answer of 1 is away; 0: there is none -/
def cus (x : Int32) (a : Nat) : Nat := if fb x (32 - a) a < 32 then fb x (32 - a) a - a + 1 else 0
theorem ok_cus {x : Int32} {a : Nat} {K : Int32 → Prop} (ha : a ≤ 32) (h : K (nI (cus x a))) : wp_X0_callsUntilStop x (nI a) K := by
  intro L hL
  have key : ∀ m i, i + m = 32 → a ≤ i → fb x m i = fb x (32 - a) a → L (nI i) := by
    intro m
    induction m with
    | zero =>
      intro i hi hai he
      have e : cus x a = 0 := if_neg (by rw [← he]; show ¬ i < 32; omega)
      rw [e] at h
      exact hL _ (br_t (nI_le (a := 32) (by omega) (by omega)) h)
    | succ m ih =>
      intro i hi hai he
      rw [fb_s] at he
      refine hL _ (br_f (nI_ge (b := 32) (by omega) (by decide)) ?_)
      rw [and1, b_ushr i (by omega), Nat.add_zero, nI_1]
      by_cases q : bt x i = true
      · rw [if_pos q] at he
        have e : cus x a = i - a + 1 := by unfold cus; rw [← he, if_pos (by omega)]
        rw [e] at h
        refine bs_f q ?_
        rw [pk_sub hai, nI_1]
        exact h
      · rw [if_neg q] at he
        exact bs_t q (ih (i + 1) (by omega) (by omega) he)
  exact key (32 - a) a (by omega) (Nat.le_refl _) rfl
