-- PURE 9: the reference's entries; look
theorem ok_entM {V d a n : Nat} {f lt pk : Nat → Int32} {lm x : Int32} {K : Int32 → (Nat → Int32) → Int32 → (Nat → Int32) → Prop} (hV : V < 9) (hB : Byt f) (h : dOK V f d) (hn31 : n < 2 ^ 31) (hm : n = 0 ∨ (x = nI a ∧ a + n ≤ 4096)) (hK : ∀ lt' lm' pk', K (nI (ent V f d a n)) lt' lm' pk') : wp_X10_entryOf (nI V) f lt lm pk (nI (dat f d)) (nI (dsz f d)) (nI (dct f d)) x (nI n) K := by
  have hszV : szV V = 4 ∨ szV V = 6 := by rcases szV_2 V with q | q <;> omega
  have hc := (dct_lt (d := d) hB).1
  refine ok_packs hV hB hn31 hm (fun lt' lm' pk' hp => ?_)
  have hp2 : ∀ k, k < szV V → pk' k = nI (oct V f a n k) := hp
  intro L hL
  have key : ∀ m i, i + m = dct f d → K (nI (entF V f d a n m i)) lt' lm' pk' → L (nI i) := by
    intro m
    induction m with
    | zero =>
      intro i hi hk
      exact hL _ (br_t (nI_le (by omega) (by omega)) hk)
    | succ m ih =>
      intro i hi hk
      have hin := ent_in h (show i < dct f d by omega)
      refine hL _ (br_f (nI_ge (by omega) (by omega)) (nm_r (e' := nI (dat f d + i * dsz f d)) (by rw [pk_mul, nI_add]) ?_))
      rw [nI_1]
      rw [entF_s] at hk
      have em := em_iff (V := V) (d := d) (a := a) (n := n) (i := i) hB
      intro L35 h35
      have key2 : ∀ k, k ≤ szV V → ∀ y : Int32, ((y = 1 ∧ ∀ j, j < k → f (dat f d + i * dsz f d + j) = nI (oct V f a n j)) ∨ (y = 0 ∧ ¬ ∀ j, j < k → f (dat f d + i * dsz f d + j) = nI (oct V f a n j))) → L35 y (nI k) := by
        refine for_up (P := fun k => ∀ y : Int32, ((y = 1 ∧ ∀ j, j < k → f (dat f d + i * dsz f d + j) = nI (oct V f a n j)) ∨ (y = 0 ∧ ¬ ∀ j, j < k → f (dat f d + i * dsz f d + j) = nI (oct V f a n j))) → L35 y (nI k)) ?_ (fun k hk2 ih2 => ?_)
        · intro y hy
          refine h35 _ _ (ok_pksz hV (br_t (nI_le (Nat.le_refl _) (by omega)) ?_))
          rcases hy with ⟨rfl, w⟩ | ⟨rfl, w⟩
          · rw [if_pos (em.mpr w)] at hk
            exact br_f (by decide) hk
          · rw [if_neg (fun z => w (em.mp z))] at hk
            exact br_t rfl (ih (i + 1) (by omega) hk)
        · intro y hy
          have v1 : vp_in (nI (dat f d + i * dsz f d + k)) 4096 := vp_in_nI (by omega) (by decide)
          have v2 : vp_in (nI k) 6 := vp_in_nI (by omega) (by decide)
          have e1 : (nI (dat f d + i * dsz f d + k)).toNatClampNeg = dat f d + i * dsz f d + k := nI_clamp (by omega)
          have e2 : (nI k).toNatClampNeg = k := nI_clamp (by omega)
          refine h35 _ _ (ok_pksz hV (br_f (nI_ge hk2 (by omega)) ?_))
          rw [nI_add, e1, e2, nI_1, hp2 k hk2]
          intro J74 h74 J73 h73
          rcases hy with ⟨rfl, w⟩ | ⟨rfl, w⟩
          · refine br_f (by decide) ⟨v1, v2, bs_c (fun z => h73 (h74 _ (ih2 0 (Or.inr ⟨rfl, fun q => z (q k (Nat.lt_succ_self k))⟩)))) (fun z => h74 _ (ih2 1 (Or.inl ⟨rfl, fun j hj => ?_⟩)))⟩
            rcases Nat.lt_or_ge j k with w1 | w1
            · exact w j w1
            · have : j = k := Nat.le_antisymm (Nat.le_of_lt_succ hj) w1
              subst this
              exact z
          · exact br_t rfl (h73 (h74 _ (ih2 0 (Or.inr ⟨rfl, fun q => w (fun j hj => q j (Nat.lt_succ_of_lt hj))⟩))))
      exact key2 0 (Nat.zero_le _) 1 (Or.inl ⟨rfl, fun j hj => absurd hj (Nat.not_lt_zero j)⟩)
  exact key (dct f d) 0 (Nat.zero_add _) (hK _ _ _)
theorem sim_look {V : Nat} {f ar lt pk sp : Nat → Int32} {u lm de ds dm me ms mm : Int32} {a n d : Int32} {K : Int32 → (Nat → Int32) → Int32 → (Nat → Int32) → Int32 → Int32 → Int32 → Int32 → (Nat → Int32) → Int32 → (Nat → Int32) → Int32 → Int32 → Int32 → Prop} (hV : V < 9) (hB : Byt f) (h : ∀ r x1 x2 x3 x4 x5 x6 y1 y2 y3 y4 y5 y6, K r x1 x2 x3 x4 x5 x6 r y1 y2 y3 y4 y5 y6) : wp_X9_look f (rwV V) (nI (upV V)) (nI (upV V + 1)) ar u (nV V) (nI (szV V)) sp de ds dm a n d (fun r x1 x2 x3 x4 x5 x6 => wp_X10_look (nI V) f lt lm pk me ms mm a n d (fun r2 y1 y2 y3 y4 y5 y6 => K r x1 x2 x3 x4 x5 x6 r2 y1 y2 y3 y4 y5 y6)) := by
  have hn := i_rng n
  have ha := i_rng a
  have z0 : (0 : Int32).toInt = 0 := rfl
  have z255 : (255 : Int32).toInt = 255 := rfl
  have bad : (n.toInt < 0 ∨ 255 < n.toInt) → wp_X10_look (nI V) f lt lm pk me ms mm a n d (fun r2 y1 y2 y3 y4 y5 y6 => K (-2) ar u sp de ds dm r2 y1 y2 y3 y4 y5 y6) := fun c => ok_inI (A := 0) (B := 255) rfl rfl (fun _ _ => by omega) (fun _ => br_t rfl (h _ _ _ _ _ _ _ _ _ _ _ _ _))
  refine br_c (fun c => bad (Or.inl (by rw [i_lt] at c; omega))) (fun c => br_c (fun e => bad (Or.inr (by rw [i_lt] at e; omega))) (fun e => ?_))
  rw [i_lt] at c e
  obtain ⟨k, hk⟩ : ∃ k : Nat, k = n.toInt.toNat := ⟨_, rfl⟩
  have en : n = nI k := by rw [hk]; exact i_nI (by omega)
  subst en
  have ek : (nI k).toInt = k := nI_toInt (by omega)
  rw [ek] at c e bad
  have inn : ∀ {w : Int32 → Prop}, w 1 → wp_X10_in (nI k) 0 255 w := fun hw => ok_inI (A := 0) (B := 255) rfl rfl (fun _ _ => hw) (fun q => by rw [ek] at q; omega)
  refine ok_isStart (fun d1 d2 => bs_t (by decide) ?_) (fun d1 => bs_f rfl (inn (br_f (by decide) (ok_inI (A := 0) (B := 4000) rfl rfl (fun _ _ => by omega) (fun _ => bs_f rfl (h _ _ _ _ _ _ _ _ _ _ _ _ _))))))
  have ind : ∀ {w : Int32 → Prop}, w 1 → wp_X10_in d 0 4000 w := fun hw => ok_inI (A := 0) (B := 4000) rfl rfl (fun _ _ => hw) (fun q => by omega)
  have wi : ∀ {K2 : Int32 → Prop}, K2 (inMb a.toInt k) → wp_X10_within (Int32.toInt64 a) (Int32.toInt64 (nI k)) K2 := fun {K2} h2 => ok_within (k := k) (by rw [l_ti, ek]) (by omega) (by rw [l_ti]; omega) (by rw [l_ti]; omega) (by rw [l_ti]; exact h2)
  refine ok_holds (by omega) ?_
  by_cases q : inM a.toInt k
  · rw [inMb_t q]
    refine br_f (by decide) ?_
    obtain ⟨j, hj⟩ : ∃ j : Nat, j = d.toInt.toNat := ⟨_, rfl⟩
    have ed : d = nI j := by rw [hj]; exact i_nI d1
    have hx : k = 0 ∨ (a = nI a.toInt.toNat ∧ a.toInt.toNat + k ≤ 4096) := by
      unfold inM at q
      rcases q with q | q
      · exact Or.inl q
      · exact Or.inr ⟨i_nI q.1, by omega⟩
    have mo : ∀ {r : Int32} {x1 x2 x3 x4 x5 x6}, (dOK V f j → r = nI (ent V f j a.toInt.toNat k)) → (¬ dOK V f j → r = -3) → wp_X10_look (nI V) f lt lm pk me ms mm a (nI k) d (fun r2 y1 y2 y3 y4 y5 y6 => K r x1 x2 x3 x4 x5 x6 r2 y1 y2 y3 y4 y5 y6) := fun {r x1 x2 x3 x4 x5 x6} h1 h2 => by
      refine inn (br_f (by decide) (ind (bs_t (by decide) (wi ?_))))
      rw [inMb_t q, ed]
      refine br_f (by decide) (ok_isThere hV hB (by omega) (fun w => bs_t (by decide) (ok_entM hV hB w (by omega) hx (fun lt' lm' pk' => ?_))) (fun w e' s' m' => bs_f rfl ?_))
      · rw [h1 w]; exact h _ _ _ _ _ _ _ _ _ _ _ _ _
      · rw [h2 w]; exact h _ _ _ _ _ _ _ _ _ _ _ _ _
    rw [ed]
    refine ok_open (V := V) hB (by omega) (fun w sp' hs => bs_t (by decide) (ok_packed hB (by omega) hx (fun ar' u' => ok_entC hB w ?_))) (fun w sp' e' s' m' => bs_f rfl ?_)
    · rw [← ed]; exact mo (fun _ => rfl) (fun w2 => absurd w w2)
    · rw [← ed]; exact mo (fun w2 => absurd w2 w) (fun _ => rfl)
  · rw [inMb_f q]
    refine br_t rfl (inn (br_f (by decide) (ind (bs_t (by decide) (wi ?_)))))
    rw [inMb_f q]
    exact br_t rfl (h _ _ _ _ _ _ _ _ _ _ _ _ _)
