-- PURE 5: packed words
def tlW (K : Int64 → (Nat → Int32) → Int32 → Prop) (pa_n : Nat) (pa_letters_2 : Nat → Int32) (pa_used_1 : Int32) : Prop :=
  ∀ L76 : Int64 → Int32 → Prop, (∀ (x3_3 : Int64) (x5_1 : Int32), ((((nI pa_n) ≤ x5_1) → (K x3_3 pa_letters_2 pa_used_1)) ∧ ((¬ (nI pa_n) ≤ x5_1) → (∀ J118 : Int64 → Prop, (∀ (x3_4 : Int64), (vp_in x5_1 pa_n ∧ (∀ v_1 : Int64, v_1 = ((x3_4 * 32) + (Int32.toInt64 (pa_letters_2 (Int32.toNatClampNeg x5_1)))) → (L76 v_1 (x5_1 + 1)))) → J118 x3_4) → (((¬ (x5_1 - x5_1 / 3 * 3) = 0) → (J118 x3_3)) ∧ (((x5_1 - x5_1 / 3 * 3) = 0) → (∀ J115 : Int32 → Int64 → Prop, (∀ (y_1 : Int32) (y_2 : Int64), (∀ v_2 : Int64, v_2 = (y_2 + (Int32.toInt64 y_1)) → (J118 v_2)) → J115 y_1 y_2) → (((¬ x5_1 = ((nI pa_n) - 3)) → (J115 0 (x3_3 * 2))) ∧ ((x5_1 = ((nI pa_n) - 3)) → (J115 1 (x3_3 * 2)))))))))) → L76 x3_3 x5_1) → L76 0 0
def tlP (K : Int64 → (Nat → Int32) → Int32 → Prop) (pa_n : Nat) (pa_letters_1 : Nat → Int32) (pa_used_1 : Int32) : Prop :=
  ∀ L49 : Int32 → (Nat → Int32) → Prop, (∀ (x3_2 : Int32) (pa_letters_2 : Nat → Int32), ((((nI pa_n) ≤ x3_2) → (∀ L76 : Int64 → Int32 → Prop, (∀ (x3_3 : Int64) (x5_1 : Int32), ((((nI pa_n) ≤ x5_1) → (K x3_3 pa_letters_2 pa_used_1)) ∧ ((¬ (nI pa_n) ≤ x5_1) → (∀ J118 : Int64 → Prop, (∀ (x3_4 : Int64), (vp_in x5_1 pa_n ∧ (∀ v_1 : Int64, v_1 = ((x3_4 * 32) + (Int32.toInt64 (pa_letters_2 (Int32.toNatClampNeg x5_1)))) → (L76 v_1 (x5_1 + 1)))) → J118 x3_4) → (((¬ (x5_1 - x5_1 / 3 * 3) = 0) → (J118 x3_3)) ∧ (((x5_1 - x5_1 / 3 * 3) = 0) → (∀ J115 : Int32 → Int64 → Prop, (∀ (y_1 : Int32) (y_2 : Int64), (∀ v_2 : Int64, v_2 = (y_2 + (Int32.toInt64 y_1)) → (J118 v_2)) → J115 y_1 y_2) → (((¬ x5_1 = ((nI pa_n) - 3)) → (J115 0 (x3_3 * 2))) ∧ ((x5_1 = ((nI pa_n) - 3)) → (J115 1 (x3_3 * 2)))))))))) → L76 x3_3 x5_1) → L76 0 0)) ∧ ((¬ (nI pa_n) ≤ x3_2) → (vp_in x3_2 pa_n ∧ (L49 (x3_2 + 1) (upd pa_letters_2 (Int32.toNatClampNeg x3_2) 5))))) → L49 x3_2 pa_letters_2) → L49 pa_used_1 pa_letters_1
def tlM (K : (Nat → Int32) → Int32 → (Nat → Int32) → Prop) (mo_version : Int32) (mo_packed mo_letters_1 : Nat → Int32) (mo_letterMany_1 : Int32) : Prop :=
  wp_X10_packedSize mo_version (fun (r_1 : Int32) => ∀ v_1 : Int32, v_1 = (r_1 / 2) → (∀ L40 : Int32 → (Nat → Int32) → Prop, (∀ (x4_1 : Int32) (mo_packed_1 : Nat → Int32), (((v_1 ≤ x4_1) → (K mo_letters_1 mo_letterMany_1 mo_packed_1)) ∧ ((¬ v_1 ≤ x4_1) → (∀ J60 : Int32 → Prop, (∀ (y_1 : Int32), (∀ L65 : Int32 → Int32 → Prop, (∀ (x5_1 : Int32) (x6_1 : Int32), (((3 ≤ x6_1) → (vp_in (2 * x4_1) 6 ∧ (vp_in ((2 * x4_1) + 1) 6 ∧ (L40 (x4_1 + 1) (upd (upd mo_packed_1 (Int32.toNatClampNeg (2 * x4_1)) (x5_1 >>> (8 &&& 31))) (Int32.toNatClampNeg ((2 * x4_1) + 1)) (x5_1 &&& 255)))))) ∧ ((¬ 3 ≤ x6_1) → (∀ J101 : Int32 → Prop, (∀ (y_2 : Int32), (∀ v_2 : Int32, v_2 = (x5_1 + (y_2 <<< ((10 - (5 * x6_1)) &&& 31))) → (L65 v_2 (x6_1 + 1))) → J101 y_2) → (((mo_letterMany_1 ≤ ((3 * x4_1) + x6_1)) → (J101 5)) ∧ ((¬ mo_letterMany_1 ≤ ((3 * x4_1) + x6_1)) → (vp_in ((3 * x4_1) + x6_1) 1040 ∧ (J101 (mo_letters_1 (Int32.toNatClampNeg ((3 * x4_1) + x6_1)))))))))) → L65 x5_1 x6_1) → L65 y_1 0) → J60 y_1) → (((¬ x4_1 = (v_1 - 1)) → (J60 0)) ∧ ((x4_1 = (v_1 - 1)) → (J60 32768)))))) → L40 x4_1 mo_packed_1) → L40 0 mo_packed))
def wN (l : Nat → Nat) (cap : Nat) : Nat → Nat
  | 0 => 0
  | i + 1 => (if i % 3 = 0 then wN l cap i * 2 + (if i = cap - 3 then 1 else 0) else wN l cap i) * 32 + l i
theorem wN_s (l : Nat → Nat) (cap i : Nat) : wN l cap (i + 1) = (if i % 3 = 0 then wN l cap i * 2 + (if i = cap - 3 then 1 else 0) else wN l cap i) * 32 + l i := rfl
theorem rem_3 {a : Nat} (h : a < 2 ^ 31) : nI a - nI a / 3 * 3 = nI (a % 3) := pk_rem (d := 3) h (by decide) (by decide)
theorem ok_tlW {K : Int64 → (Nat → Int32) → Int32 → Prop} {cap : Nat} {ar : Nat → Int32} {u : Int32} {l : Nat → Nat} (hc3 : 3 ≤ cap) (hc : cap < 1000) (hl : ∀ j, l j < 32) (har : ∀ j, j < cap → ar j = nI (l j)) (h : K (lN (wN l cap cap)) ar u) : tlW K cap ar u := by
  intro L hL
  have key : ∀ i, i ≤ cap → L (lN (wN l cap i)) (nI i) := by
    refine for_up ?_ (fun i hi ih => ?_)
    · exact hL _ _ (br_t (nI_le (Nat.le_refl cap) (by omega)) h)
    · refine hL _ _ (br_f (nI_ge hi (by omega)) ?_)
      intro J118 h118
      have j118 : J118 (lN (if i % 3 = 0 then wN l cap i * 2 + (if i = cap - 3 then 1 else 0) else wN l cap i)) := by
        refine h118 _ ⟨vp_in_nI hi (by omega), fun v ev => ?_⟩
        have hli := hl i
        rw [nI_clamp (by omega), har i hi, nI_l (by omega)] at ev
        rw [ev, nI_1, show ∀ A : Nat, lN A * 32 + lN (l i) = lN (A * 32 + l i) from fun A => by rw [show (32 : Int64) = lN 32 from rfl, lN_mul, lN_add]]
        rw [wN_s] at ih
        exact ih
      rw [rem_3 (by omega)]
      refine bs_c (fun w => ?_) (fun w => ?_)
      · rw [if_neg (fun z => w (by rw [z]; rfl))] at j118
        exact j118
      · have w2 : i % 3 = 0 := (nI_eq (b := 0) (by omega) (by decide)).mp w
        rw [if_pos w2] at j118
        intro J115 h115
        rw [show (nI cap - 3 : Int32) = nI (cap - 3) from pk_sub (b := 3) hc3]
        have s1 : ∀ y : Nat, lN (wN l cap i) * 2 + lN y = lN (wN l cap i * 2 + y) := fun y => by rw [show (2 : Int64) = lN 2 from rfl, lN_mul, lN_add]
        refine bs_c (fun z => h115 _ _ (fun v ev => ?_)) (fun z => h115 _ _ (fun v ev => ?_))
        · rw [if_neg (fun z2 => z (by rw [z2]))] at j118
          rw [show Int32.toInt64 0 = lN 0 from rfl, s1] at ev
          rw [ev]
          exact j118
        · rw [if_pos ((nI_eq (by omega) (by omega)).mp z)] at j118
          rw [show Int32.toInt64 1 = lN 1 from rfl, s1] at ev
          rw [ev]
          exact j118
  exact key 0 (Nat.zero_le _)
theorem ok_tlP {K : Int64 → (Nat → Int32) → Int32 → Prop} {cap : Nat} {ls : List Nat} {ar : Nat → Int32} (hc3 : 3 ≤ cap) (hc : cap < 1000) (hl : ∀ j, ls.getD j 5 < 32) (hs : Snk cap ls ar) (h : ∀ ar' u', K (lN (wN (fun j => ls.getD j 5) cap cap)) ar' u') : tlP K cap ar (nI (min ls.length cap)) := by
  intro L hL
  have key : ∀ i, i ≤ cap - min ls.length cap → L (nI (min ls.length cap + i)) (blk ar (min ls.length cap) (fun _ => 5) i) := by
    refine for_up ?_ (fun i hi ih => ?_)
    · refine hL _ _ (br_t (nI_le (by omega) (by omega)) (ok_tlW hc3 hc hl (fun j hj => ?_) (h _ _)))
      unfold blk
      by_cases q : j < ls.length
      · rw [if_neg (by omega), hs j q hj]
        congr 1
        rw [List.getD_eq_getElem?_getD, List.getD_eq_getElem?_getD, List.getElem?_eq_getElem q]
        rfl
      · rw [if_pos (by omega), List.getD_eq_getElem?_getD, List.getElem?_eq_none (by omega)]
        rfl
    · refine hL _ _ (br_f (nI_ge (by omega) (by omega)) ⟨vp_in_nI (by omega) (by omega), ?_⟩)
      rw [nI_clamp (by omega), nI_1]
      have e := blk_s ar (min ls.length cap) (fun _ => (5 : Int32)) i
      try dsimp only at e
      rw [e]
      exact ih
  have := key 0 (Nat.zero_le _)
  rw [blk_0] at this
  exact this
def allL (V : Nat) (f : Nat → Int32) (a : Nat) : Nat → List Nat
  | 0 => []
  | n + 1 => allL V f a n ++ lets V (gv f (a + n))
theorem allL_pre (V : Nat) (f : Nat → Int32) (a : Nat) {i : Nat} : ∀ {n : Nat}, i ≤ n → ∃ m, allL V f a n = allL V f a i ++ m := by
  intro n
  induction n with
  | zero => intro h; have : i = 0 := by omega
            subst this; exact ⟨[], by simp⟩
  | succ n ih =>
    intro h
    by_cases e : i = n + 1
    · subst e; exact ⟨[], by simp⟩
    · obtain ⟨m, hm⟩ := ih (by omega)
      exact ⟨m ++ lets V (gv f (a + n)), by rw [allL, hm, List.append_assoc]⟩
theorem upV_le (V : Nat) : upV V ≤ 4 := by unfold upV; split <;> decide
theorem lets_lt {V c : Nat} (hc : c < 256) : ∀ x ∈ lets V c, x < 32 := by
  have := upV_le V
  intro x hx
  unfold lets at hx
  split at hx
  · simp at hx; omega
  split at hx
  · simp at hx; omega
  split at hx
  · simp at hx; omega
  split at hx
  · simp at hx; omega
  · simp at hx; omega
theorem allL_lt {V : Nat} {f : Nat → Int32} {a : Nat} (hB : Byt f) : ∀ n, ∀ x ∈ allL V f a n, x < 32 := by
  intro n
  induction n with
  | zero => intro x hx; cases hx
  | succ n ih =>
    intro x hx
    rcases List.mem_append.mp hx with hx | hx
    · exact ih x hx
    · exact lets_lt (gv_ok hB _).1 x hx
theorem allL_d {V : Nat} {f : Nat → Int32} {a n : Nat} (hB : Byt f) (j : Nat) : (allL V f a n).getD j 5 < 32 := by
  by_cases q : j < (allL V f a n).length
  · rw [List.getD_eq_getElem?_getD, List.getElem?_eq_getElem q]
    exact allL_lt hB n _ (List.getElem_mem q)
  · rw [List.getD_eq_getElem?_getD, List.getElem?_eq_none (by omega)]
    decide
/-- the packed word of n codes from a on, as a number -/
def wrd (V : Nat) (f : Nat → Int32) (a n : Nat) : Nat := wN (fun j => (allL V f a n).getD j 5) (nV V) (nV V)
theorem nV_2 (V : Nat) : nV V = 6 ∨ nV V = 9 := by unfold nV; split <;> simp
theorem ok_packed {V : Nat} {f ar : Nat → Int32} {u : Int32} {a n : Nat} {K : Int64 → (Nat → Int32) → Int32 → Prop} {x : Int32} (hB : Byt f) (hn31 : n < 2 ^ 31) (hm : n = 0 ∨ (x = nI a ∧ a + n ≤ 4096)) (h : ∀ ar' u', K (lN (wrd V f a n)) ar' u') : wp_X5_packed f (rwV V) (nI (upV V)) (nI (upV V + 1)) ar u (nV V) x (nI n) K := by
  have hcap := nV_2 V
  have c3 : 3 ≤ nV V := by omega
  have c4 : nV V < 1000 := by omega
  have c5 : nV V < 2 ^ 20 := by omega
  have c6 : nV V < 2 ^ 31 := by omega
  intro L hL
  have key : ∀ i, i ≤ n → ∀ ar1, Snk (nV V) (allL V f a i) ar1 → L (nI i) ar1 (nI (min (allL V f a i).length (nV V))) := by
    refine for_up (P := fun i => ∀ ar1, Snk (nV V) (allL V f a i) ar1 → L (nI i) ar1 (nI (min (allL V f a i).length (nV V)))) ?_ (fun i hi ih => ?_)
    · intro ar1 h1
      exact hL _ _ _ (fun J hJ => br_t (nI_le (Nat.le_refl n) hn31) (hJ (ok_tlP c3 c4 (allL_d hB) h1 h)))
    · intro ar1 h1
      by_cases q : nV V ≤ (allL V f a i).length
      · obtain ⟨m, hm2⟩ := allL_pre V f a (Nat.le_of_lt hi)
        have h2 : Snk (nV V) (allL V f a n) ar1 := by rw [hm2]; exact h1.full q
        have e : min (allL V f a i).length (nV V) = min (allL V f a n).length (nV V) := by
          rw [hm2, List.length_append]; omega
        rw [e]
        have e2 : nI (nV V) ≤ nI (min (allL V f a n).length (nV V)) := nI_le (by omega) (by omega)
        exact hL _ _ _ (fun J hJ => br_f (nI_ge hi hn31) (br_t e2 (hJ (ok_tlP c3 c4 (allL_d hB) h2 h))))
      · have e2 : ¬ nI (nV V) ≤ nI (min (allL V f a i).length (nV V)) := nI_ge (by omega) c6
        have hx2 := hm.resolve_left (by omega)
        have e3 : a + i < 4096 := by omega
        refine hL _ _ _ (fun J hJ => br_f (nI_ge hi hn31) (br_f e2 ?_))
        rw [hx2.1, nI_add]
        refine ok_octet e3 ?_
        rw [(gv_ok hB (a + i)).2, nI_1]
        exact ok_addCode c5 (gv_ok hB _).1 h1 (fun ar2 h2 => ih ar2 h2)
  exact key 0 (Nat.zero_le _) ar Snk.nil
