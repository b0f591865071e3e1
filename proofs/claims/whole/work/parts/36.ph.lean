-- PURE 17: a READ begins
/-- the READ: the program's and the reference's -/
def RRd (k : Nat) (op tx pa li cn sh : Int32) (cd : Nat → Int32) (tx' pa' li' : Int32) (cd' : Nat → Int32) (cn' sh' : Int32) : Prop := (op = 0 ∨ op = 1) ∧ (op = 1 → ∃ t p lim n, tx = nI t ∧ tx' = nI t ∧ 1 ≤ t ∧ t ≤ 4000 ∧ pa = nI p ∧ pa' = nI p ∧ p ≤ 4000 ∧ li = nI lim ∧ li' = nI lim ∧ lim ≤ 255 ∧ t + 2 + lim ≤ 4096 ∧ cn = nI n ∧ cn' = nI n ∧ n ≤ lim ∧ (∀ i, i < n → cd i = cd' i ∧ ∃ c, c < 256 ∧ cd i = nI c) ∧ ((sh = -1 ∧ sh' = -1) ∨ ∃ s, s < k ∧ sh = nI s ∧ sh' = nI (k - 1 - s)))
theorem ok_add7 {lim n : Nat} {cd : Nat → Int32} {x : Int32} {K : Int32 → (Nat → Int32) → Prop} (hn : n < lim) (hl : lim ≤ 255) (h : K (nI (n + 1)) (upd cd n x)) : wp_X7_add (nI lim) (nI n) cd x K := by
  refine br_f (nI_ge hn (by omega)) (br_f (nI_pos (by omega)) (br_f (nI_ge (b := 255) (by omega) (by decide)) ⟨vp_in_nI (by omega) (by decide), nm_r (nI_1 n) ?_⟩))
  rw [nI_clamp (by omega)]
  exact h
theorem ok_add7_full {lim n : Nat} {cd : Nat → Int32} {x : Int32} {K : Int32 → (Nat → Int32) → Prop} (hn : lim ≤ n) (hl : n ≤ 255) (h : K (nI n) cd) : wp_X7_add (nI lim) (nI n) cd x K := br_t (nI_le hn (by omega)) h
def limV (V : Nat) (f : Nat → Int32) (t : Nat) : Nat := if V ≤ 4 then gv f t - 1 else gv f t
def prsV (V : Nat) (f : Nat → Int32) (t : Nat) : Nat := if V ≤ 4 then 0 else gv f (t + 1)
theorem blk0_at {f w : Nat → Int32} {n i : Nat} (h : i < n) : blk f 0 w n i = w i := by
  unfold blk
  rw [if_pos (by omega)]
  rfl
theorem mx0 {n : Nat} (h : n < 256) : (if (nI n - 1 : Int32) < 0 then 0 else (nI n - 1 : Int32)) = nI (n - 1) := by
  have z : (0 : Int32).toInt = 0 := rfl
  have e : (nI n - 1 : Int32).toInt = (n : Int) - 1 := m1_toInt (by omega)
  by_cases q : n = 0
  · subst q; rfl
  · rw [if_neg (by rw [i_lt]; omega)]
    exact pk_sub (b := 1) (by omega)
theorem ok_beginC {V t p : Nat} {f cd : Nat → Int32} {tx pa li cn sh ca st ev an ad si : Int32} {K : Int32 → Int32 → Int32 → Int32 → Int32 → Int32 → Int32 → (Nat → Int32) → Int32 → Int32 → Int32 → Int32 → Int32 → Int32 → Prop} (hV : V < 9) (hB : Byt f) (ht : 1 ≤ t) (ht2 : t ≤ 4000) (hp : p ≤ 4000)
    (h2 : limV V f t < prsV V f t → K (-2) 0 tx pa li cn sh cd ca st ev an ad si)
    (h3 : prsV V f t ≤ limV V f t → ¬ t + 2 + limV V f t ≤ 4096 → K (-3) 0 tx pa li cn sh cd ca st ev an ad si)
    (h1 : prsV V f t ≤ limV V f t → t + 2 + limV V f t ≤ 4096 → K (nI (limV V f t)) 1 (nI t) (nI p) (nI (limV V f t)) (nI (prsV V f t)) (-1) (blk cd 0 (fun i => f (t + 2 + i)) (prsV V f t)) 0 0 0 0 0 0) : wp_X9_begin (nI V) f 0 tx pa li cn sh cd ca st ev an ad si (nI t) (nI p) K := by
  have g1 := gv_ok hB t
  have g2 := gv_ok hB (t + 1)
  have et : (nI t).toInt = t := nI_toInt (by omega)
  have ep : (nI p).toInt = p := nI_toInt (by omega)
  have et1 : (nI (t + 1)).toInt = (t : Int) + 1 := by rw [nI_toInt (by omega)]; omega
  have o1 : (1 : Int32).toInt = 1 := rfl
  obtain ⟨lim, el⟩ : ∃ l, l = limV V f t := ⟨_, rfl⟩
  obtain ⟨n, en⟩ : ∃ n, n = prsV V f t := ⟨_, rfl⟩
  rw [← el, ← en] at h1 h2 h3
  have hl : lim ≤ 255 := by rw [el]; unfold limV; split <;> omega
  have hn : n ≤ 255 := by rw [en]; unfold prsV; split <;> omega
  have s1 : ¬ ((nI t).toInt < 0 ∨ 4000 < (nI t).toInt) := by clear h1 h2 h3; omega
  have s2 : ¬ ((nI p).toInt < 0 ∨ 4000 < (nI p).toInt) := by clear h1 h2 h3; omega
  have t1 : ¬ nI t < 1 := by clear h1 h2 h3; rw [i_lt]; omega
  have t4 : t < 4096 := by omega
  have t5 : t + 1 < 4096 := by omega
  have main : ∀ {J84 : Int32 → Prop}, (∀ y2 : Int32, (((y2 ≤ nI lim) → wp_X4_holds (nI t + 1) (nI lim + 1) (fun r_6 => ((¬ r_6 = 0) → wp_X7_start 0 tx pa li cn sh (nI t) (nI p) (nI lim) (fun o1 x1 p1 l1 c1 s1 => ∀ L130 : Int32 → Int32 → (Nat → Int32) → Prop, (∀ (x6_1 : Int32) (c2 : Int32) (cd1 : Nat → Int32), (((y2 ≤ x6_1) → wp_X0_restart ca st ev an ad si (fun a1 a2 a3 a4 a5 a6 => K (nI lim) o1 x1 p1 l1 c2 s1 cd1 a1 a2 a3 a4 a5 a6)) ∧ ((¬ y2 ≤ x6_1) → wp_X4_octet f ((nI t + 2) + x6_1) (fun r_7 => wp_X7_add l1 c2 cd1 r_7 (fun c3 cd2 => L130 (x6_1 + 1) c3 cd2)))) → L130 x6_1 c2 cd1) → L130 0 c1 cd)) ∧ ((r_6 = 0) → K (-3) 0 tx pa li cn sh cd ca st ev an ad si))) ∧ ((¬ y2 ≤ nI lim) → K (-2) 0 tx pa li cn sh cd ca st ev an ad si)) → J84 y2) → J84 (nI n) := by
    intro J84 h84
    refine h84 _ ?_
    clear h84
    by_cases q : n ≤ lim
    · refine br_t (nI_le q (by omega)) ?_
      rw [nI_1, nI_1]
      refine ok_holds (by omega) ?_
      rw [et1]
      by_cases q2 : t + 2 + lim ≤ 4096
      · rw [inMb_t (by clear h1 h2 h3; unfold inM; omega)]
        refine bs_t (by decide) ?_
        have hK := h1 q q2
        clear h1 h2 h3
        intro L hL
        have key : ∀ i, i ≤ n → L (nI i) (nI i) (blk cd 0 (fun i => f (t + 2 + i)) i) := by
          refine for_up (P := fun i => L (nI i) (nI i) (blk cd 0 (fun i => f (t + 2 + i)) i)) ?_ (fun i hi ih => ?_)
          · exact hL _ _ _ (br_t (nI_le (Nat.le_refl _) (by omega)) hK)
          · refine hL _ _ _ (br_f (nI_ge hi (by omega)) ?_)
            rw [show (nI t + 2 : Int32) = nI (t + 2) from nI_add _ 2, nI_add]
            refine ok_octet (by omega) (ok_add7 (by omega) hl ?_)
            rw [nI_1]
            have e := blk_s cd 0 (fun i => f (t + 2 + i)) i
            rw [Nat.zero_add] at e
            rw [← e] at ih
            exact ih
        have := key 0 (Nat.zero_le _)
        rw [blk_0, nI_0] at this
        exact this
      · rw [inMb_f (by clear h1 h2 h3; unfold inM; omega)]
        exact bs_f rfl (h3 q q2)
    · exact br_f (nI_ge (by omega) (by omega)) (h2 (by omega))
  refine br_t rfl (br_f t1 (ok_isStart (fun _ _ => br_f (by decide) (ok_isStart (fun _ _ => bs_t (by decide) (ok_octet t4 (ok_counts hV ?_))) (fun w => absurd w s2))) (fun w => absurd w s1)))
  clear h1 h2 h3
  rw [g1.2]
  intro J61 h61
  by_cases q : V ≤ 4
  · have e : cntV V = 0 := if_pos q
    have elim : lim = gv f t - 1 := by rw [el]; exact if_pos q
    have enn : n = 0 := by rw [en]; exact if_pos q
    rw [e, mx0 g1.1, ← elim]
    refine br_t rfl (h61 _ (ok_counts hV ?_))
    intro J84 h84
    have m := main h84
    rw [e]
    rw [enn] at m
    exact br_t rfl m
  · have e : cntV V = 1 := if_neg q
    have elim : lim = gv f t := by rw [el]; exact if_neg q
    have enn : n = gv f (t + 1) := by rw [en]; exact if_neg q
    rw [e, ← elim]
    refine br_f (by decide) (h61 _ (ok_counts hV ?_))
    intro J84 h84
    have m := main h84
    rw [e, nI_1]
    refine br_f (by decide) (ok_octet t5 ?_)
    rw [g2.2, ← enn]
    exact m
