-- PURE 18: a READ begins (reference), both sides
theorem ok_beginM {V t p : Nat} {f cd : Nat → Int32} {tx pa li cn sh ev go ca : Int32} {K : Int32 → Int32 → Int32 → Int32 → Int32 → (Nat → Int32) → Int32 → Int32 → Int32 → Int32 → Int32 → Prop} (hV : V < 9) (hB : Byt f) (ht : 1 ≤ t) (ht2 : t ≤ 4000) (hp : p ≤ 4000)
    (h2 : limV V f t < prsV V f t → K (-2) 0 tx pa li cd cn sh ev go ca)
    (h3 : prsV V f t ≤ limV V f t → ¬ t + 2 + limV V f t ≤ 4096 → K (-3) 0 tx pa li cd cn sh ev go ca)
    (h1 : prsV V f t ≤ limV V f t → t + 2 + limV V f t ≤ 4096 → K (nI (limV V f t)) 1 (nI t) (nI p) (nI (limV V f t)) (blk cd 0 (fun i => f (t + 2 + i)) (prsV V f t)) (nI (prsV V f t)) (-1) 0 0 0) : wp_X10_begin (nI V) f 0 tx pa li cd cn sh ev go ca (nI t) (nI p) K := by
  have g1 := gv_ok hB t
  have g2 := gv_ok hB (t + 1)
  have et : (nI t).toInt = t := nI_toInt (by omega)
  have ep : (nI p).toInt = p := nI_toInt (by omega)
  have v4 : nI V ≤ 4 ↔ V ≤ 4 := nI_leI (b := 4) (by omega) (by decide)
  obtain ⟨lim, el⟩ : ∃ l, l = limV V f t := ⟨_, rfl⟩
  obtain ⟨n, en⟩ : ∃ n, n = prsV V f t := ⟨_, rfl⟩
  rw [← el, ← en] at h1 h2 h3
  have hl : lim ≤ 255 := by rw [el]; unfold limV; split <;> omega
  have hn : n ≤ 255 := by rw [en]; unfold prsV; split <;> omega
  have s1 : ¬ ((nI t).toInt < 1 ∨ 4000 < (nI t).toInt) := by clear h1 h2 h3; omega
  have s2 : ¬ ((nI p).toInt < 0 ∨ 4000 < (nI p).toInt) := by clear h1 h2 h3; omega
  have t4 : t < 4096 := by omega
  have t5 : t + 1 < 4096 := by omega
  have at1 : (Int32.toInt64 (nI t + 1)).toInt = (t : Int) + 1 := by rw [l_ti, nI_1, nI_toInt (by omega)]; omega
  have at2 : (Int32.toInt64 (nI lim) + 1).toInt = ((lim + 1 : Nat) : Int) := by
    have e0 : (Int32.toInt64 (nI lim)).toInt = (lim : Int) := by rw [l_ti, nI_toInt (by omega)]
    have e1 : (1 : Int64).toInt = 1 := rfl
    rw [l_add (by omega) (by omega), e0, e1]
    omega
  have c1 : (nI t).toNatClampNeg = t := nI_clamp (by omega)
  have c2 : (nI t + 1).toNatClampNeg = t + 1 := by rw [nI_1]; exact nI_clamp (by omega)
  have i2 : vp_in (nI t + 1) 4096 := by rw [nI_1]; exact vp_in_nI t5 (by decide)
  -- the loop that takes the preset text
  have lp : prsV V f t ≤ limV V f t → t + 2 + limV V f t ≤ 4096 → ∀ L155 : Int32 → (Nat → Int32) → Prop, (∀ (x5_1 : Int32) (g : Nat → Int32), (((nI n ≤ x5_1) → (K (nI lim) 1 (nI t) (nI p) (nI lim) g (nI n) (-1) 0 0 0)) ∧ ((¬ nI n ≤ x5_1) → (vp_in ((nI t + 2) + x5_1) 4096 ∧ (vp_in x5_1 256 ∧ (L155 (x5_1 + 1) (upd g (Int32.toNatClampNeg x5_1) (f (Int32.toNatClampNeg ((nI t + 2) + x5_1))))))))) → L155 x5_1 g) → L155 0 cd := by
    intro w1 w2 L hL
    have hK := h1 (by omega) (by omega)
    clear h1 h2 h3
    have key : ∀ i, i ≤ n → L (nI i) (blk cd 0 (fun i => f (t + 2 + i)) i) := by
      refine for_up (P := fun i => L (nI i) (blk cd 0 (fun i => f (t + 2 + i)) i)) ?_ (fun i hi ih => ?_)
      · exact hL _ _ (br_t (nI_le (Nat.le_refl _) (by omega)) hK)
      · refine hL _ _ (br_f (nI_ge hi (by omega)) ?_)
        rw [show (nI t + 2 : Int32) = nI (t + 2) from nI_add _ 2, nI_add, nI_clamp (by omega), nI_clamp (by omega), nI_1]
        have e := blk_s cd 0 (fun i => f (t + 2 + i)) i
        rw [Nat.zero_add] at e
        rw [← e] at ih
        exact ⟨vp_in_nI (by omega) (by decide), vp_in_nI (by omega) (by decide), ih⟩
    have := key 0 (Nat.zero_le _)
    rw [blk_0, nI_0] at this
    exact this
  have inm : inM ((Int32.toInt64 (nI t + 1)).toInt) (lim + 1) ↔ t + 2 + lim ≤ 4096 := by clear h1 h2 h3 lp; rw [at1]; unfold inM; omega
  have rg1 : -(2 ^ 40) < (Int32.toInt64 (nI t + 1)).toInt := by rw [at1]; omega
  have rg2 : (Int32.toInt64 (nI t + 1)).toInt < 2 ^ 40 := by rw [at1]; omega
  refine br_t rfl (ok_inI (A := 1) (B := 4000) rfl rfl (fun _ _ => br_f (by decide) (ok_inI (A := 0) (B := 4000) rfl rfl (fun _ _ => bs_t (by decide) ⟨vp_in_nI t4 (by decide), nm_r (e' := nI (gv f t)) (by rw [c1]; exact g1.2) ?_⟩) (fun w => absurd w s2))) (fun w => absurd w s1))
  intro J64 h64
  by_cases q : V ≤ 4
  · have elim : lim = gv f t - 1 := by rw [el]; exact if_pos q
    have enn : n = 0 := by rw [en]; exact if_pos q
    refine br_t (v4.mpr q) (h64 (fun J87 h87 => ?_))
    have hj : J87 (nI lim) := h87 _ (ok_within at2 (by omega) rg1 rg2 (by
      by_cases q2 : t + 2 + lim ≤ 4096
      · rw [inMb_t (inm.mpr q2)]
        refine bs_t (by decide) (fun J149 h149 => br_t (v4.mpr q) (h149 _ ?_))
        have := lp (by omega) (by omega)
        rw [enn] at this
        exact this
      · rw [inMb_f (fun z => q2 (inm.mp z))]
        exact bs_f rfl (h3 (by omega) q2)))
    clear h64 h87 h1 h2 h3 lp
    refine br_t (v4.mpr q) (br_c (fun z => ?_) (fun z => ?_))
    · have z2 : gv f t ≤ 0 := (nI_leI (b := 0) (by omega) (by decide)).mp z
      have e : lim = 0 := by omega
      rw [e] at hj
      exact hj
    · have z2 : ¬ gv f t ≤ 0 := fun w => z (nI_le (b := 0) w (by decide))
      rw [show (nI (gv f t) - 1 : Int32) = nI lim from by rw [elim]; exact pk_sub (b := 1) (by omega)]
      exact hj
  · have elim : lim = gv f t := by rw [el]; exact if_neg q
    have enn : n = gv f (t + 1) := by rw [en]; exact if_neg q
    have nq : ¬ nI V ≤ 4 := fun w => q (v4.mp w)
    refine br_f nq ⟨i2, ?_⟩
    rw [c2, g2.2, ← elim, ← enn]
    refine br_c (fun w => ?_) (fun w => h2 ?_)
    · have w2 : n ≤ lim := (nI_leI (by omega) (by omega)).mp w
      refine h64 (fun J87 h87 => br_f nq ?_)
      rw [← elim]
      refine h87 _ (ok_within at2 (by omega) rg1 rg2 ?_)
      by_cases q2 : t + 2 + lim ≤ 4096
      · rw [inMb_t (inm.mpr q2)]
        refine bs_t (by decide) (fun J149 h149 => br_f nq ⟨i2, ?_⟩)
        rw [c2, g2.2, ← enn]
        exact h149 _ (lp (by omega) (by omega))
      · rw [inMb_f (fun z => q2 (inm.mp z))]
        exact bs_f rfl (h3 w2 q2)
    · clear h1 h2 h3 lp h64
      have : ¬ n ≤ lim := fun y => w (nI_le y (by omega))
      omega
theorem sim_begin {V k B : Nat} {f cd cd' : Nat → Int32} {op tx pa li cn sh ca st ev an ad si tx' pa' li' cn' sh' ev' an' go' ca' ad' a b : Int32} {K : Int32 → Int32 → Int32 → Int32 → Int32 → Int32 → Int32 → (Nat → Int32) → Int32 → Int32 → Int32 → Int32 → Int32 → Int32 → Int32 → Int32 → Int32 → Int32 → Int32 → (Nat → Int32) → Int32 → Int32 → Int32 → Int32 → Int32 → Prop} (hV : V < 9) (hB : Byt f) (hR : RRd k op tx pa li cn sh cd tx' pa' li' cd' cn' sh') (hC : op = 1 → RClk B ca ev an ad si ev' an' go' ca' ad')
    (h : ∀ r o x1 x2 x3 x4 x5 c x6 x7 x8 x9 x10 x11 y1 y2 y3 c2 y4 y5 y6 y7 y8, RRd k o x1 x2 x3 x4 x5 c y1 y2 y3 c2 y4 y5 → (o = 1 → RClk B x6 x8 x9 x10 x11 y6 an' y7 y8 ad') → K r o x1 x2 x3 x4 x5 c x6 x7 x8 x9 x10 x11 r o y1 y2 y3 c2 y4 y5 y6 y7 y8) : wp_X9_begin (nI V) f op tx pa li cn sh cd ca st ev an ad si a b (fun r o x1 x2 x3 x4 x5 c x6 x7 x8 x9 x10 x11 => wp_X10_begin (nI V) f op tx' pa' li' cd' cn' sh' ev' go' ca' a b (fun r2 o2 y1 y2 y3 c2 y4 y5 y6 y7 y8 => K r o x1 x2 x3 x4 x5 c x6 x7 x8 x9 x10 x11 r2 o2 y1 y2 y3 c2 y4 y5 y6 y7 y8)) := by
  have z1 : (1 : Int32).toInt = 1 := rfl
  rcases hR.1 with e | e
  · have nop : ∀ P : Prop, op = 1 → P := fun P w => by rw [e] at w; exact absurd w (by decide)
    have hu := fun r => h r op tx pa li cn sh cd ca st ev an ad si tx' pa' li' cd' cn' sh' ev' go' ca' hR hC
    by_cases q : (1 ≤ a.toInt ∧ a.toInt ≤ 4000) ∧ 0 ≤ b.toInt ∧ b.toInt ≤ 4000
    · obtain ⟨⟨q1, q2⟩, q3, q4⟩ := q
      have ea : a = nI a.toInt.toNat := i_nI (by omega)
      have eb : b = nI b.toInt.toNat := i_nI (by omega)
      obtain ⟨t, et⟩ : ∃ t : Nat, t = a.toInt.toNat := ⟨_, rfl⟩
      obtain ⟨p, ep⟩ : ∃ p : Nat, p = b.toInt.toNat := ⟨_, rfl⟩
      have r1 : 1 ≤ t := by clear h hu; omega
      have r2 : t ≤ 4000 := by clear h hu; omega
      have r3 : p ≤ 4000 := by clear h hu; omega
      rw [ea, eb, ← et, ← ep]
      rw [e] at hu ⊢
      have hpr : prsV V f t ≤ 255 := by
        have := (gv_ok hB (t + 1)).1
        unfold prsV; split <;> omega
      have hli : limV V f t ≤ 255 := by
        have := (gv_ok hB t).1
        unfold limV; split <;> omega
      refine ok_beginC hV hB r1 r2 r3 (fun w => ok_beginM hV hB r1 r2 r3 (fun _ => hu _) (fun w2 => absurd w (by omega)) (fun w2 => absurd w (by omega))) (fun w w3 => ok_beginM hV hB r1 r2 r3 (fun w2 => absurd w (by omega)) (fun _ _ => hu _) (fun _ w2 => absurd w2 w3)) (fun w w3 => ok_beginM hV hB r1 r2 r3 (fun w2 => absurd w (by omega)) (fun _ w2 => absurd w3 w2) (fun _ _ => h _ _ _ _ _ _ _ _ _ _ _ _ _ _ _ _ _ _ _ _ _ _ _ ?_ ?_))
      · refine ⟨Or.inr rfl, fun _ => ⟨t, p, limV V f t, prsV V f t, rfl, rfl, r1, r2, rfl, rfl, r3, rfl, rfl, hli, w3, rfl, rfl, w, fun i hi => ?_, Or.inl ⟨rfl, rfl⟩⟩⟩
        rw [blk0_at hi, blk0_at hi]
        exact ⟨rfl, _, (gv_ok hB _).1, (gv_ok hB _).2⟩
      · exact fun _ => ⟨0, 0, rfl, rfl, by omega, rfl, rfl, Nat.zero_le _, fun w => absurd w (Nat.lt_irrefl 0)⟩
    · have mo : wp_X10_begin (nI V) f op tx' pa' li' cd' cn' sh' ev' go' ca' a b (fun r2 o2 y1 y2 y3 c2 y4 y5 y6 y7 y8 => K (-2) op tx pa li cn sh cd ca st ev an ad si r2 o2 y1 y2 y3 c2 y4 y5 y6 y7 y8) := by
        refine br_t e (ok_inI (A := 1) (B := 4000) rfl rfl (fun _ _ => br_f (by decide) (ok_inI (A := 0) (B := 4000) rfl rfl (fun _ _ => absurd ?_ q) (fun _ => bs_f rfl (hu _)))) (fun _ => br_t rfl (hu _)))
        exact ⟨⟨by assumption, by assumption⟩, by assumption, by assumption⟩
      refine br_t e (br_c (fun _ => mo) (fun w => ok_isStart (fun _ _ => br_f (by decide) (ok_isStart (fun _ _ => absurd ?_ q) (fun _ => bs_f rfl mo))) (fun _ => br_t rfl mo)))
      refine ⟨⟨?_, by assumption⟩, by assumption, by assumption⟩
      rw [i_lt] at w
      clear h hu mo q
      omega
  · have ne : ¬ op = 0 := by rw [e]; decide
    exact br_f ne (br_f ne (h _ _ _ _ _ _ _ _ _ _ _ _ _ _ _ _ _ _ _ _ _ _ _ hR hC))
