-- PURE 2: put, at, tables
def Byt (f : Nat → Int32) : Prop := ∀ j, ∃ n, n < 256 ∧ f j = nI n
theorem Byt.of_blk {f w : Nat → Int32} {a k : Nat} (h : Byt f) (hw : ∀ i, i < k → ∃ n, n < 256 ∧ w i = nI n) : Byt (blk f a w k) := by
  intro j
  unfold blk
  by_cases q : a ≤ j ∧ j < a + k
  · rw [if_pos q]
    exact hw _ (by omega)
  · rw [if_neg q]
    exact h j
theorem Byt.of_upd {f : Nat → Int32} {k n : Nat} (h : Byt f) (hn : n < 256) : Byt (upd f k (nI n)) := by
  intro j
  by_cases q : j = k
  · subst q
    rw [pk_us]
    exact ⟨n, hn, rfl⟩
  · rw [pk_un q]
    exact h j
theorem ok_store {f : Nat → Int32} {a n : Nat} {v : Int64} {K : (Nat → Int32) → Prop} (h4 : a + n ≤ 4096) (hn : n ≤ 8) (h : K (blk f a (fun i => oc8 v (8 * (n - 1 - i))) n)) : wp_X4_store f (nI a) (nI n) v K := by
  intro L hL
  have key : ∀ i, i ≤ n → L (nI i) (blk f a (fun i => oc8 v (8 * (n - 1 - i))) i) := by
    refine for_up ?_ (fun i hi ih => ?_)
    · exact hL _ _ (br_t (nI_le (Nat.le_refl n) (by omega)) h)
    · refine hL _ _ (br_f (nI_ge hi (by omega)) ?_)
      rw [nI_add, sh8 hi, oc8_u _ (by omega)]
      refine ok_setOctet (by omega) ?_
      rw [oc8_255, nI_1]
      have e := blk_s f a (fun i => oc8 v (8 * (n - 1 - i))) i
      try dsimp only at e
      rw [e]
      exact ih
  have := key 0 (Nat.zero_le _)
  rw [blk_0, nI_0] at this
  exact this
theorem ok_in {x a b : Int32} {K : Int32 → Prop} (ht : a ≤ x → x ≤ b → K 1) (hf : (x < a ∨ b < x) → K 0) : wp_X10_in x a b K := by
  refine br_c (fun c => hf (Or.inl c)) (fun c => br_c (fun d => hf (Or.inr d)) (fun d => ht ?_ ?_))
  · rw [i_lt] at c; rw [i_le]; omega
  · rw [i_lt] at d; rw [i_le]; omega
theorem sim_at {f : Nat → Int32} {a : Int32} {K : Int32 → Int32 → Prop} (h : ∀ r, K r r) : wp_X9_at f a (fun r => wp_X10_at f a (fun r2 => K r r2)) := by
  refine ok_holds (k := 1) (by decide) ?_
  by_cases q : inM a.toInt 1
  · rw [inMb_t q]
    have hq : 0 ≤ a.toInt ∧ a.toInt + 1 ≤ 4096 := by unfold inM at q; omega
    refine br_f (by decide) ?_
    rw [i_nI hq.1]
    refine ok_octet (by omega) ?_
    refine ok_within (k := 1) (by rfl) (by decide) (by rw [l_ti, nI_toInt (by omega)]; omega) (by rw [l_ti, nI_toInt (by omega)]; omega) ?_
    rw [l_ti, nI_toInt (by omega), inMb_t (by unfold inM; omega)]
    refine br_f (by decide) ⟨vp_in_nI (by omega) (by decide), ?_⟩
    rw [nI_clamp (by omega)]
    exact h _
  · rw [inMb_f q]
    refine br_t rfl ?_
    have := i_rng a
    refine ok_within (k := 1) (by rfl) (by decide) (by rw [l_ti]; omega) (by rw [l_ti]; omega) ?_
    rw [l_ti, inMb_f q]
    exact br_t rfl (h _)
theorem sim_put {f : Nat → Int32} {a n : Int32} {v : Int64} {K : Int32 → (Nat → Int32) → Int32 → (Nat → Int32) → Prop} (hB : Byt f) (h : ∀ r g, Byt g → K r g r g) : wp_X9_put f a n v (fun r g => wp_X10_put f a n v (fun r2 g2 => K r g r2 g2)) := by
  have hn := i_rng n
  have ha := i_rng a
  have o1 : (1 : Int32).toInt = 1 := rfl
  have o8 : (8 : Int32).toInt = 8 := rfl
  have bad : (n < 1 ∨ 8 < n) → wp_X10_put f a n v (fun r2 g2 => K (-2) f r2 g2) := fun c => ok_in (fun c1 c2 => by
    rw [i_le] at c1 c2; rcases c with c | c <;> (rw [i_lt] at c; omega)) (fun _ => bs_f rfl (h _ _ hB))
  refine br_c (fun c => bad (Or.inl c)) (fun c => br_c (fun d => ?_) (fun d => bad (Or.inr (by rw [i_le] at d; rw [i_lt]; omega))))
  rw [i_lt] at c
  rw [i_le] at d
  obtain ⟨k, hk⟩ : ∃ k : Nat, k = n.toInt.toNat := ⟨_, rfl⟩
  have en : n = nI k := by rw [hk]; exact i_nI (by omega)
  subst en
  have ek : (nI k).toInt = k := nI_toInt (by omega)
  rw [ek] at c d
  refine ok_holds (by omega) ?_
  have wi : ∀ {K2 : Int32 → Prop}, K2 (inMb a.toInt k) → wp_X10_within (Int32.toInt64 a) (Int32.toInt64 (nI k)) K2 := fun h2 => ok_within (k := k) (by rw [l_ti, ek]) (by omega) (by rw [l_ti]; omega) (by rw [l_ti]; omega) (by rw [l_ti]; exact h2)
  by_cases q : inM a.toInt k
  · have hq : 0 ≤ a.toInt ∧ a.toInt + k ≤ 4096 := by unfold inM at q; omega
    obtain ⟨j, hj⟩ : ∃ j : Nat, j = a.toInt.toNat := ⟨_, rfl⟩
    have ea : a = nI j := by rw [hj]; exact i_nI hq.1
    have hj4 : j + k ≤ 4096 := by omega
    rw [inMb_t q]
    refine bs_t (by decide) ?_
    rw [ea]
    refine ok_store hj4 (by omega) ?_
    rw [← ea]
    refine ok_in (fun _ _ => bs_t (by decide) (wi ?_)) (fun c1 => by rcases c1 with c1 | c1 <;> (rw [i_lt, ek] at c1; omega))
    rw [inMb_t q]
    refine bs_t (by decide) ?_
    rw [ea]
    have hBB : Byt (blk f j (fun i => oc8 v (8 * (k - 1 - i))) k) := hB.of_blk (fun i _ => oc8_lt _ _)
    intro L hL
    have key : ∀ i, i ≤ k → L (nI i) (blk f j (fun i => oc8 v (8 * (k - 1 - i))) i) := by
      refine for_up ?_ (fun i hi ih => ?_)
      · exact hL _ _ (br_t (nI_le (Nat.le_refl k) (by omega)) (h _ _ hBB))
      · refine hL _ _ (br_f (nI_ge hi (by omega)) ?_)
        rw [nI_add, sh8 hi, oc8_s _ (by omega), nI_clamp (by omega), nI_1]
        refine ⟨vp_in_nI (by omega) (by decide), ?_⟩
        have e := blk_s f j (fun i => oc8 v (8 * (k - 1 - i))) i
        try dsimp only at e
        rw [e]
        exact ih
    have := key 0 (Nat.zero_le _)
    rw [blk_0, nI_0] at this
    exact this
  · rw [inMb_f q]
    refine bs_f rfl ?_
    refine ok_in (fun _ _ => bs_t (by decide) (wi ?_)) (fun c1 => by rcases c1 with c1 | c1 <;> (rw [i_lt, ek] at c1; omega))
    rw [inMb_f q]
    exact bs_f rfl (h _ _ hB)
