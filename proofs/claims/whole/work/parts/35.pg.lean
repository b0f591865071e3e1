-- PURE 16: tick
theorem sdiv {a e : Nat} (he : 0 < e) : (a + 1) / e = a / e + (if (a + 1) % e = 0 then 1 else 0) := by
  have h1 := Nat.div_add_mod a e
  have h2 := Nat.mod_lt a he
  by_cases q : a % e + 1 = e
  · have h3 : a + 1 = e * (a / e + 1) := by rw [Nat.mul_add, Nat.mul_one]; omega
    have h4 : (a + 1) % e = 0 := by rw [h3]; exact Nat.mul_mod_right _ _
    rw [if_pos h4]
    exact Nat.div_eq_of_eq_mul_right he h3
  · have h3 : a + 1 = (a % e + 1) + e * (a / e) := by omega
    have h4 : (a + 1) % e = a % e + 1 := by
      rw [h3, Nat.add_mul_mod_self_left]
      exact Nat.mod_eq_of_lt (by omega)
    rw [if_neg (by omega)]
    have h5 : (a + 1) / e = (a % e + 1) / e + a / e := by
      conv => lhs; rw [h3]
      exact Nat.add_mul_div_left _ _ he
    rw [h5, Nat.div_eq_of_lt (by omega)]
    omega
theorem rem_e {a e : Nat} (ha : a < 2 ^ 31) (h0 : 0 < e) (he : e < 2 ^ 31) : nI a - nI a / nI e * nI e = nI (a % e) := pk_rem ha h0 he
theorem ok_pass {e c ad s0 T : Nat} {an st : Int32} {K : Int32 → Int32 → Int32 → Int32 → Int32 → Prop} (he : 0 < e) (he2 : e ≤ 1000) (hs : s0 < 1000) (hT : T ≤ 100000) (had : ad ≤ 32)
    (h1 : (cus an ad = 0 ∨ (s0 + T) / e < cus an ad) → K (nI ((s0 + T) / e)) (nI (c + (s0 + T) / e)) 0 (nI (min (ad + (s0 + T) / e) 32)) (nI ((s0 + T) % e)))
    (h2 : 0 < cus an ad → cus an ad ≤ (s0 + T) / e → ∀ x4 x5, K (nI (cus an ad)) (nI (c + cus an ad)) 1 x4 x5) : wp_X0_pass (nI c) st (nI e) an (nI ad) (nI s0) (nI T) K := by
  have ne : ¬ nI e = 0 := nI_ne0 he (by omega)
  have hD : (s0 + T) / e ≤ s0 + T := Nat.div_le_self _ _
  have hS : cus an ad ≤ 33 := by
    unfold cus
    have := (fb_ok an (32 - ad) ad).2.1
    split <;> omega
  have mn : ∀ x, x < 2 ^ 30 → (if (32 : Int32) < nI ad + nI x then 32 else nI ad + nI x) = nI (min (ad + x) 32) := by
    intro x hx
    rw [nI_add]
    by_cases q : 32 < ad + x
    · rw [if_pos (show (32 : Int32) < nI (ad + x) from nI_lt (a := 32) q (by omega)), Nat.min_eq_right (by omega)]; rfl
    · rw [if_neg (show ¬ (32 : Int32) < nI (ad + x) from nI_nlt (a := 32) (by omega) (by decide)), Nat.min_eq_left (by omega)]
  refine br_t (nI_lt (a := 0) he (by omega)) (nm_r (nI_add _ _) ⟨ne, nm_r (pk_div (by omega) he (by omega)) (ok_cus had ?_)⟩)
  have c1 : nI (cus an ad) ≤ 0 ↔ cus an ad = 0 := (nI_leI (b := 0) (by omega) (by decide)).trans (by omega)
  have c2 : nI ((s0 + T) / e) < nI (cus an ad) ↔ (s0 + T) / e < cus an ad := nI_ltI (by omega) (by omega)
  have r3 := rem_e (a := s0 + T) (e := e) (by omega) he (by omega)
  have mD := mn ((s0 + T) / e) (by omega)
  have mS := mn (cus an ad) (by omega)
  intro J51 h51
  have f0 : (cus an ad = 0 ∨ (s0 + T) / e < cus an ad) → J51 0 := fun w => h51 _ ⟨Or.inl rfl, fun J67 h67 => br_t rfl (h67 _ ⟨ne, nm_r r3 (nm_r mD (nm_r (nI_add _ _) (h1 w)))⟩)⟩
  have f1 : 0 < cus an ad → cus an ad ≤ (s0 + T) / e → J51 1 := fun w1 w2 => h51 _ ⟨Or.inr rfl, fun J67 h67 => br_f (by decide) (h67 _ ⟨ne, nm_r r3 (nm_r mS (nm_r (nI_add _ _) (h2 w1 w2 _ _)))⟩)⟩
  clear h51
  intro J50 h50
  have f2 := fun w => h50 (f0 w)
  clear h50
  refine br_c (fun w => f2 (Or.inl (c1.mp w))) (fun w => br_c (fun z => f2 (Or.inr (c2.mp z))) (fun z => f1 ?_ ?_))
  · have : ¬ cus an ad = 0 := fun y => w (c1.mpr y)
    omega
  · have : ¬ (s0 + T) / e < cus an ad := fun y => z (c2.mpr y)
    omega
theorem ok_pass0 {c : Int32} {an ad si st T : Int32} {K : Int32 → Int32 → Int32 → Int32 → Int32 → Prop} (h : K 0 c 0 ad si) : wp_X0_pass c st (nI 0) an ad si T K := br_f (by decide) h
theorem ok_endClk {V t : Nat} {f cd : Nat → Int32} {en op cn : Int32} {K : Int32 → (Nat → Int32) → Int32 → Int32 → Prop} (hV : V < 9) (ht : t ≤ 4000) (h : K 0 (layF V f t 0 cd) 0 0) : wp_X9_endByClock (nI V) en f op (nI t) cn cd K := ok_layC (n := 0) hV (by decide) (by omega) (fun i hi => absurd hi (Nat.not_lt_zero i)) h
/-- the reference's loop over the ticks -/
theorem ok_tickM {V t e g c a T : Nat} {f cd : Nat → Int32} {n an en : Int32} {K : Int32 → (Nat → Int32) → Int32 → Int32 → Int32 → Int32 → Int32 → Int32 → Prop} (hV : V < 9) (ht : t ≤ 4000) (he : 0 < e) (he2 : e ≤ 1000) (hT : T ≤ 100000) (hg : g < 2 ^ 29) (hc : c < 2 ^ 29) (ha : a < 2 ^ 29)
    (h1 : (cus an (min a 32) = 0 ∨ (g % e + T) / e < cus an (min a 32)) → K (nI ((g % e + T) / e)) f 1 n (nI (g + T)) (nI (c + (g % e + T) / e)) (nI (a + (g % e + T) / e)) en)
    (h2 : 0 < cus an (min a 32) → cus an (min a 32) ≤ (g % e + T) / e → ∀ x4 x5 x6, K (nI (cus an (min a 32))) (layF V f t 0 cd) 0 0 x4 x5 x6 0) : wp_X10_tick (nI V) f 1 (nI t) cd n (nI e) an (nI g) (nI c) (nI a) en (nI T) K := by
  have ne : ¬ nI e = 0 := nI_ne0 he (by omega)
  have nle : ¬ nI e ≤ 0 := nI_ge (b := e) (a := 0) he (by omega)
  have eT : (nI T).toInt = T := nI_toInt (by omega)
  have hme := Nat.mod_lt g he
  have eT2 : ¬ ((nI T).toInt < 0 ∨ 100000 < (nI T).toInt) := by clear h1 h2; rw [eT]; omega
  obtain ⟨S, eS⟩ : ∃ S, S = cus an (min a 32) := ⟨_, rfl⟩
  rw [← eS] at h1 h2
  refine bs_t (by decide) (ok_inI (A := 0) (B := 100000) rfl rfl (fun _ _ => bs_t (by decide) ?_) (fun w => absurd w eT2))
  intro L hL
  obtain ⟨D, eD⟩ : ∃ D : Nat → Nat, D = fun τ => (g % e + τ) / e := ⟨_, rfl⟩
  have eDT : D T = (g % e + T) / e := by rw [eD]
  have D0 : D 0 = 0 := by rw [eD]; exact Nat.div_eq_of_lt hme
  have Ds : ∀ τ, D (τ + 1) = D τ + (if (g + (τ + 1)) % e = 0 then 1 else 0) := fun τ => by
    rw [eD]
    show (g % e + τ + 1) / e = _
    rw [sdiv he, Nat.add_assoc, Nat.mod_add_mod]
  have Dle : ∀ τ, D τ ≤ g % e + τ := fun τ => by rw [eD]; exact Nat.div_le_self _ _
  have Dm : ∀ τ, τ ≤ T → D τ ≤ D T := fun τ h => by rw [eD]; exact Nat.div_le_div_right (by omega)
  have key : ∀ m τ, τ + m = T → (S = 0 ∨ D τ < S) → L (nI (D τ)) (nI τ) f 1 n (nI (g + τ)) (nI (c + D τ)) (nI (a + D τ)) en := by
    intro m
    induction m with
    | zero =>
      intro τ hτ hS
      have hτ2 : τ = T := by omega
      rw [hτ2] at hS ⊢
      have hh := h1 (by rw [eD] at hS; exact hS)
      refine hL _ _ _ _ _ _ _ _ _ (br_t (nI_le (Nat.le_refl _) (by omega)) ?_)
      rw [eD]
      exact hh
    | succ m ih =>
      intro τ hτ hS
      have dl := Dle τ
      have ds := Ds τ
      have dle1 := Dm (τ + 1) (by omega)
      have ih2 := ih (τ + 1) (by omega)
      have nT : ¬ nI T ≤ nI τ := nI_ge (by omega) (by omega)
      have rz : nI ((g + τ + 1) % e) = 0 ↔ (g + (τ + 1)) % e = 0 := by
        rw [Nat.add_assoc]
        exact nI_eq (b := 0) (Nat.lt_of_le_of_lt (Nat.mod_le _ _) (by omega)) (by decide)
      have r3 := rem_e (a := g + τ + 1) (e := e) (by omega) he (by omega)
      have ab : a + D τ < 2 ^ 30 := by omega
      have a32 : 32 ≤ nI (a + D τ) ↔ 32 ≤ a + D τ := nI_leI (a := 32) (by decide) (by omega)
      -- whether this call answers 1
      have ans : (a + D τ < 32 ∧ bt an (a + D τ) = true) → S = D τ + 1 := by
        rintro ⟨q1, q2⟩
        have fo := fb_ok an (32 - min a 32) (min a 32)
        rw [show min a 32 = a by omega] at fo eS
        have hle : fb an (32 - a) a ≤ a + D τ := by
          rcases Nat.lt_or_ge (a + D τ) (fb an (32 - a) a) with w | w
          · have := fo.2.2.1 (a + D τ) (by omega) w
            rw [this] at q2; cases q2
          · exact w
        have e1 : S = fb an (32 - a) a - a + 1 := by rw [eS]; unfold cus; rw [if_pos (by omega)]
        omega
      have ans2 : S = D τ + 1 → (a + D τ < 32 ∧ bt an (a + D τ) = true) := by
        intro q
        have fo := fb_ok an (32 - min a 32) (min a 32)
        unfold cus at eS
        by_cases w : fb an (32 - min a 32) (min a 32) < 32
        · rw [if_pos w] at eS
          have h3 := fo.1
          have hm : min a 32 = a := by omega
          rw [hm] at w eS fo h3
          have e1 : fb an (32 - a) a = a + D τ := by omega
          exact ⟨by omega, by rw [← e1]; exact fo.2.2.2 (by omega)⟩
        · rw [if_neg w] at eS; omega
      have yes : (((32 ≤ nI (a + D τ)) → False) ∧ (¬ 32 ≤ nI (a + D τ) → ((an >>> (nI (a + D τ) &&& 31)) &&& 1) = 1)) ↔ S = D τ + 1 := by
        constructor
        · rintro ⟨q1, q2⟩
          have w : a + D τ < 32 := by
            rcases Nat.lt_or_ge (a + D τ) 32 with w | w
            · exact w
            · exact (q1 (a32.mpr w)).elim
          have b := (and1 _).mp (q2 (fun z => by have := a32.mp z; omega))
          rw [b_sshr _ w an (i := 0) (by decide), Nat.add_zero, if_pos w] at b
          exact ans ⟨w, b⟩
        · intro q
          obtain ⟨w, b⟩ := ans2 q
          refine ⟨fun z => by have := a32.mp z; omega, fun _ => (and1 _).mpr ?_⟩
          rw [b_sshr _ w an (i := 0) (by decide), Nat.add_zero, if_pos w]
          exact b
      -- behind a stop
      have stp : S = D τ + 1 → (g + (τ + 1)) % e = 0 → ∀ x4 x5 x6, L (nI (D τ + 1)) (nI (τ + 1)) (layF V f t 0 cd) 0 0 x4 x5 x6 0 := by
        intro q z x4 x5 x6
        rw [if_pos z] at ds
        have q5 : 0 < S := by omega
        have q6 : S ≤ (g % e + T) / e := by rw [← eDT]; omega
        have hK := h2 q5 q6 x4 x5 x6
        rw [q] at hK
        refine hL _ _ _ _ _ _ _ _ _ (br_c (fun _ => hK) (fun _ => br_t rfl hK))
      have nS : ¬ S = D τ + 1 → (g + (τ + 1)) % e = 0 → (S = 0 ∨ D (τ + 1) < S) := fun q z => by rw [if_pos z] at ds; omega
      refine hL _ _ _ _ _ _ _ _ _ (br_f nT (br_f (by decide) (br_f nle (nm_r (nI_1 _) ⟨ne, ?_⟩))))
      rw [r3, nI_1, nI_1, nI_1, nI_1]
      intro J145 h145
      refine bs_c (fun z => ?_) (fun z => nm_e ?_)
      · have z2 : ¬ (g + (τ + 1)) % e = 0 := fun w => z (rz.mpr w)
        rw [if_neg z2] at ds
        rw [ds] at ih2
        exact h145 _ _ _ _ _ _ _ (ih2 hS)
      · have z2 := rz.mp z
        have ds2 := ds
        rw [if_pos z2] at ds2
        intro J109 h109
        have no : ¬ S = D τ + 1 → J109 0 := fun q => h109 _ (nm_e (br_t rfl (h145 _ _ _ _ _ _ _ (by
          have := ih2 (nS q z2)
          rw [ds2] at this
          exact this))))
        have ye : S = D τ + 1 → J109 1 := fun q => h109 _ (nm_e (br_f (by decide) (ok_layM (n := 0) hV (by decide) (by omega) (h145 _ _ _ _ _ _ _ (stp q z2 _ _ _)))))
        clear h109
        intro J108 h108
        refine br_c (fun w => h108 (no (fun q => ?_))) (fun w => bs_c (fun y => h108 (no (fun q => ?_))) (fun y => ye (yes.mp ⟨fun k => w k, fun _ => y⟩)))
        · exact (yes.mpr q).1 w
        · exact y ((yes.mpr q).2 w)
  have k0 := key T 0 (Nat.zero_add _) (by rw [D0]; omega)
  rw [D0] at k0
  exact k0
