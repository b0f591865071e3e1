-- PURE 23: a key is pressed (written by gen_pn.py)
/-- the state that a key may change: the program's and the reference's -/
def RK (tx pa li tx' pa' li' : Int32) (N : Nat) (f : Nat → Int32) (op cn sh : Int32) (cd : Nat → Int32) (lc la : Int32) (ll lcd : Nat → Int32) (et : Int32) (cd' : Nat → Int32) (cn' sh' : Int32) (ls ln : Nat → Int32) : Prop := Byt f ∧ ∃ k l E, lc = nI k ∧ la = nI l ∧ et = nI E ∧ E ≤ N ∧ RLn k l ll lcd ls ln ∧ RRd k op tx pa li cn sh cd tx' pa' li' cd' cn' sh'
theorem RK.mono {tx pa li tx' pa' li' : Int32} {N M : Nat} {f : Nat → Int32} {op cn sh : Int32} {cd : Nat → Int32} {lc la : Int32} {ll lcd : Nat → Int32} {et : Int32} {cd' : Nat → Int32} {cn' sh' : Int32} {ls ln : Nat → Int32} (h : RK tx pa li tx' pa' li' N f op cn sh cd lc la ll lcd et cd' cn' sh' ls ln) (hm : N ≤ M) : RK tx pa li tx' pa' li' M f op cn sh cd lc la ll lcd et cd' cn' sh' ls ln := by
  obtain ⟨hB, k, l, E, h1, h2, h3, h4, h5, h6⟩ := h
  exact ⟨hB, k, l, E, h1, h2, h3, by omega, h5, h6⟩
theorem ok_typable {a : Int32} {K : Int32 → Prop} (ht : ((32 ≤ a.toInt ∧ a.toInt ≤ 126) ∨ (155 ≤ a.toInt ∧ a.toInt ≤ 251)) → K 1) (hf : ¬ ((32 ≤ a.toInt ∧ a.toInt ≤ 126) ∨ (155 ≤ a.toInt ∧ a.toInt ≤ 251)) → K 0) : wp_X9_isTypable a K := by
  have z1 : (32 : Int32).toInt = 32 := rfl
  have z2 : (126 : Int32).toInt = 126 := rfl
  have z3 : (155 : Int32).toInt = 155 := rfl
  have z4 : (251 : Int32).toInt = 251 := rfl
  intro J12 h12
  have sec : ¬ (32 ≤ a.toInt ∧ a.toInt ≤ 126) → J12 := fun w => h12 (br_c (fun v => hf (by rw [i_lt] at v; clear ht hf h12; omega)) (fun v => br_c (fun v2 => hf (by rw [i_lt] at v2; clear ht hf h12; omega)) (fun v2 => ht (by rw [i_lt] at v v2; clear ht hf h12; omega))))
  clear h12
  exact br_c (fun v => sec (by rw [i_lt] at v; clear ht hf sec; omega)) (fun v => br_c (fun v2 => ht (by rw [i_lt] at v; rw [i_le] at v2; clear ht hf sec; omega)) (fun v2 => sec (by rw [i_le] at v2; clear ht hf sec; omega)))
theorem ok_lower {a : Int32} {K : Int32 → Prop} (h1 : 65 ≤ a.toInt → a.toInt ≤ 90 → K (a + 32)) (h0 : (a.toInt < 65 ∨ 90 < a.toInt) → K a) : wp_X9_lowerCase a K := by
  have z1 : (65 : Int32).toInt = 65 := rfl
  have z2 : (90 : Int32).toInt = 90 := rfl
  refine br_c (fun v => h0 (Or.inl (by rw [i_lt] at v; exact v))) (fun v => br_c (fun v2 => h0 (Or.inr (by rw [i_lt] at v2; exact v2))) (fun v2 => ?_))
  rw [i_lt] at v v2
  have hk := h1 (by clear h0 h1; omega) (by clear h0 h1; omega)
  have e : a - 65 + 97 = a + 32 := by
    apply Int32.toInt_inj.mp
    have z3 : (97 : Int32).toInt = 97 := rfl
    have z4 : (32 : Int32).toInt = 32 := rfl
    have q1 : (a - 65).toInt = a.toInt - 65 := by rw [i_sub (by omega) (by omega), z1]
    rw [i_add (by omega) (by omega), i_add (by omega) (by omega), q1, z3, z4]
    omega
  rw [e]
  exact hk
theorem sim_press {V d tb N : Nat} {tx pa li tx' pa' li' en : Int32} {f : Nat → Int32} {cn sh : Int32} {cd : Nat → Int32} {lc la : Int32} {ll lcd : Nat → Int32} {et : Int32} {ec cd' : Nat → Int32} {cn' sh' : Int32} {ls ln : Nat → Int32} {a : Int32} (hV : V < 9) (hd : d ≤ 4000) (htb : tb ≤ 4000) (hN : N + 256 < 2 ^ 29) (hR : RK tx pa li tx' pa' li' N f 1 cn sh cd lc la ll lcd et cd' cn' sh' ls ln) (ha : 0 ≤ a.toInt) (ha2 : a.toInt ≤ 255) : ∃ r en2 f2 op2 cn2 sh2 cd2 lc2 la2 ll2 lcd2 et2 ec2 cd2' cn2' sh2' ls2 ln2, RK tx pa li tx' pa' li' (N + 256) f2 op2 cn2 sh2 cd2 lc2 la2 ll2 lcd2 et2 cd2' cn2' sh2' ls2 ln2 ∧
    (∀ {pa_letters : (Nat → Int32)} {pa_used : Int32} {di_separators : (Nat → Int32)} {di_entriesAt : Int32} {di_size : Int32} {di_entries : Int32} {pr_starts : (Nat → Int32)} {pr_lengths : (Nat → Int32)} {pr_entries : (Nat → Int32)} {pr_words : Int32} {pr_textFrom : Int32} {pr_textEnd : Int32} {K : Int32 → Int32 → (Nat → Int32) → (Nat → Int32) → Int32 → (Nat → Int32) → Int32 → Int32 → Int32 → (Nat → Int32) → (Nat → Int32) → (Nat → Int32) → Int32 → Int32 → Int32 → Int32 → Int32 → Int32 → (Nat → Int32) → Int32 → Int32 → (Nat → Int32) → (Nat → Int32) → Int32 → (Nat → Int32) → Prop}, (∀ x1 x2 x3 x4 x5 x6 x7 x8 x9 x10 x11 x12, K r en2 f2 x1 x2 x3 x4 x5 x6 x7 x8 x9 x10 x11 x12 op2 cn2 sh2 cd2 lc2 la2 ll2 lcd2 et2 ec2) → wp_X9_press (nI V) (nI d) (nI tb) en f (rwV V) (nI (upV V)) (nI (upV V + 1)) pa_letters pa_used (nV V) (nI (szV V)) di_separators di_entriesAt di_size di_entries (cntV V) pr_starts pr_lengths pr_entries pr_words pr_textFrom pr_textEnd 1 tx pa li cn sh cd lc la ll lcd et ec a K) ∧
    (∀ {lt : (Nat → Int32)} {lm : Int32} {pk : (Nat → Int32)} {me : Int32} {ms : Int32} {mm : Int32} {wf : (Nat → Int32)} {wz : (Nat → Int32)} {we : (Nat → Int32)} {K : Int32 → (Nat → Int32) → (Nat → Int32) → Int32 → (Nat → Int32) → Int32 → Int32 → Int32 → (Nat → Int32) → (Nat → Int32) → (Nat → Int32) → Int32 → (Nat → Int32) → Int32 → Int32 → Int32 → (Nat → Int32) → (Nat → Int32) → Int32 → (Nat → Int32) → Int32 → Prop}, (∀ y1 y2 y3 y4 y5 y6 y7 y8 y9, K r f2 y1 y2 y3 y4 y5 y6 y7 y8 y9 op2 cd2' cn2' sh2' en2 ls2 ln2 lc2 ec2 et2) → wp_X10_key (nI V) f (nI d) (nI tb) lt lm pk me ms mm wf wz we 1 tx' pa' li' cd' cn' sh' en ls ln lc ec et a K) := by
  obtain ⟨hB, k, l, E, rfl, rfl, rfl, hE, hL, hRd⟩ := hR
  obtain ⟨t, p, lim, n, rfl, rfl, ht, ht2, rfl, rfl, hp, rfl, rfl, hlim, h4, rfl, rfl, hn, hc, hs⟩ := hRd.2 rfl
  obtain ⟨hk, hl, hj⟩ := id hL
  have n10 : ¬ (1 : Int32) = 0 := by decide
  have inA : ∀ {K2 : Int32 → Prop}, K2 1 → wp_X10_in a 0 255 K2 := fun {K2} hk => ok_inI (A := 0) (B := 255) rfl rfl (fun _ _ => hk) (fun q => absurd q (by omega))
  have mkR : ∀ (n2 : Nat) (s1 s2 : Int32) (c1 c2 : Nat → Int32), n2 ≤ lim → (∀ i, i < n2 → c1 i = c2 i ∧ ∃ c, c < 256 ∧ c1 i = nI c) → ((s1 = -1 ∧ s2 = -1) ∨ ∃ s, s < k ∧ s1 = nI s ∧ s2 = nI (k - 1 - s)) → RRd k 1 (nI t) (nI p) (nI lim) (nI n2) s1 c1 (nI t) (nI p) (nI lim) c2 (nI n2) s2 := fun n2 s1 s2 c1 c2 q1 q2 q3 => ⟨Or.inr rfl, fun _ => ⟨t, p, lim, n2, rfl, rfl, ht, ht2, rfl, rfl, hp, rfl, rfl, hlim, h4, rfl, rfl, q1, q2, q3⟩⟩
  -- a line that is shown
  have shw : ∀ j, j < k → ∃ len, 0 < len ∧ len ≤ 255 ∧ ll ((l + 8 - j) % 8) = nI len ∧ ls (k - 1 - j) = nI len ∧ RRd k 1 (nI t) (nI p) (nI lim) (nI (min len lim)) (nI j) (blk cd 0 (fun i => lcd ((l + 8 - j) % 8 * 255 + i)) (min len lim)) (nI t) (nI p) (nI lim) (blk cd' 0 (fun i => ln (256 * (k - 1 - j) + i)) (min len lim)) (nI (min len lim)) (nI (k - 1 - j)) := fun j hjk => by
    obtain ⟨len, l0, l1, l2, l3, l4⟩ := hj j hjk
    refine ⟨len, l0, l1, l2, l3, mkR _ _ _ _ _ (Nat.min_le_right _ _) (fun i hi => ?_) (Or.inr ⟨j, hjk, rfl, rfl⟩)⟩
    rw [blk0_at hi, blk0_at hi]
    obtain ⟨q1, c, q2, q3⟩ := l4 i (by omega)
    exact ⟨q1, c, q2, q1.trans q3⟩
  rcases isE_01 V tb f a with h0 | h0
  · by_cases h8 : a = 8
    · refine ⟨0, en, f, 1, nI (n - 1), sh, cd, nI k, nI l, ll, lcd, nI E, ec, cd', nI (n - 1), sh', ls, ln, ⟨hB, k, l, E, rfl, rfl, rfl, by omega, hL, mkR _ _ _ _ _ (by omega) (fun i hi => hc i (by omega)) hs⟩, ?_, ?_⟩
      · intro pa_letters pa_used di_separators di_entriesAt di_size di_entries pr_starts pr_lengths pr_entries pr_words pr_textFrom pr_textEnd K hK
        refine ok_isEndC hV htb ?_
        rw [h0]
        refine br_t rfl (bs_f h8 ?_)
        rcases Nat.eq_zero_or_pos n with q | q
        · subst q
          exact br_t (by decide) (hK _ _ _ _ _ _ _ _ _ _ _ _)
        · exact br_f (nI_ge (a := 0) q (by omega)) (nm_r (pk_sub (b := 1) (by omega)) (hK _ _ _ _ _ _ _ _ _ _ _ _))
      · intro lt lm pk me ms mm wf wz we K hK
        refine bs_t n10 (inA (bs_t (by decide) (ok_isEndM hV htb ?_)))
        rw [h0]
        refine br_t rfl (bs_f h8 (fun J60 h60 => ?_))
        rcases Nat.eq_zero_or_pos n with q | q
        · subst q
          exact br_t (by decide) (h60 _ _ (nm_r (e' := nI 0) (by decide) (hK _ _ _ _ _ _ _ _ _)))
        · exact br_f (nI_ge (a := 0) q (by omega)) (h60 _ _ (nm_r (pk_sub (b := 1) (by omega)) (hK _ _ _ _ _ _ _ _ _)))
    · by_cases h129 : a = 129
      · -- the older line
        obtain ⟨j, e1, e2⟩ : ∃ j : Nat, sh + 1 = nI j ∧ (((¬ sh' = -1) ∧ (sh' - 1).toInt = (k : Int) - 1 - j) ∨ (sh' = -1 ∧ j = 0)) := by
          rcases hs with ⟨q1, q2⟩ | ⟨s, q0, q1, q2⟩
          · exact ⟨0, by rw [q1]; decide, Or.inr ⟨q2, rfl⟩⟩
          · refine ⟨s + 1, by rw [q1, nI_1], Or.inl ⟨fun w => ?_, ?_⟩⟩
            · rw [q2] at w
              have h3 : (nI (k - 1 - s)).toInt = ((k - 1 - s : Nat) : Int) := nI_toInt (by omega)
              rw [w] at h3
              have h4 : (-1 : Int32).toInt = -1 := rfl
              omega
            · rw [q2, m1_toInt (by omega)]
              omega
        have z0 : (0 : Int32).toInt = 0 := rfl
        have jb : j < 2 ^ 30 := by
          rcases hs with ⟨q1, q2⟩ | ⟨s, q0, q1, q2⟩
          · rcases e2 with ⟨w1, w2⟩ | ⟨w1, w2⟩
            · exact absurd q2 w1
            · omega
          · rw [q1, nI_1] at e1
            rcases e2 with ⟨w1, w2⟩ | ⟨w1, w2⟩
            · rw [q2, m1_toInt (by omega)] at w2
              omega
            · omega
        -- the row's place
        have row : ∀ {J97 : Int32 → Prop}, (∀ y : Int32, y.toInt = (k : Int) - 1 - j → J97 y) → (((¬ sh' = -1) → J97 (sh' - 1)) ∧ ((sh' = -1) → J97 (nI k - 1))) := fun {J97} hJ => by
          rcases e2 with ⟨w1, w2⟩ | ⟨w1, w2⟩
          · exact bs_t w1 (hJ _ w2)
          · refine bs_f w1 (hJ _ ?_)
            rw [m1_toInt (by omega), w2]
            omega
        rcases Nat.lt_or_ge j k with q | q
        · obtain ⟨len, l0, l1, l2, l3, hR2⟩ := shw j q
          refine ⟨0, en, f, 1, nI (min len lim), nI j, (blk cd 0 (fun i => lcd ((l + 8 - j) % 8 * 255 + i)) (min len lim)), nI k, nI l, ll, lcd, nI E, ec, (blk cd' 0 (fun i => ln (256 * (k - 1 - j) + i)) (min len lim)), nI (min len lim), nI (k - 1 - j), ls, ln, ⟨hB, k, l, E, rfl, rfl, rfl, by omega, hL, hR2⟩, ?_, ?_⟩
          · intro pa_letters pa_used di_separators di_entriesAt di_size di_entries pr_starts pr_lengths pr_entries pr_words pr_textFrom pr_textEnd K hK
            refine ok_isEndC hV htb ?_
            rw [h0]
            exact br_t rfl (bs_t h8 (bs_f h129 (nm_r e1 (br_f (nI_ge q (by omega)) (ok_showC hlim hk hl q l2 l1 (hK _ _ _ _ _ _ _ _ _ _ _ _))))))
          · intro lt lm pk me ms mm wf wz we K hK
            refine bs_t n10 (inA (bs_t (by decide) (ok_isEndM hV htb ?_)))
            rw [h0]
            refine br_t rfl (bs_t h8 (bs_f h129 (fun J97 h97 => row (fun y hy => h97 _ (br_f ?_ ?_)))))
            · rw [i_lt]; omega
            · have ey : y = nI (k - 1 - j) := by
                rw [i_nI (x := y) (by omega)]
                congr 1
                omega
              rw [ey]
              exact ok_showM hlim (by omega) l3 l1 (hK _ _ _ _ _ _ _ _ _)
        · refine ⟨0, en, f, 1, nI n, sh, cd, nI k, nI l, ll, lcd, nI E, ec, cd', nI n, sh', ls, ln, ⟨hB, k, l, E, rfl, rfl, rfl, by omega, hL, hRd⟩, ?_, ?_⟩
          · intro pa_letters pa_used di_separators di_entriesAt di_size di_entries pr_starts pr_lengths pr_entries pr_words pr_textFrom pr_textEnd K hK
            refine ok_isEndC hV htb ?_
            rw [h0]
            exact br_t rfl (bs_t h8 (bs_f h129 (nm_r e1 (br_t (nI_le q (by omega)) (hK _ _ _ _ _ _ _ _ _ _ _ _)))))
          · intro lt lm pk me ms mm wf wz we K hK
            refine bs_t n10 (inA (bs_t (by decide) (ok_isEndM hV htb ?_)))
            rw [h0]
            refine br_t rfl (bs_t h8 (bs_f h129 (fun J97 h97 => row (fun y hy => h97 _ (br_t ?_ (hK _ _ _ _ _ _ _ _ _))))))
            rw [i_lt]; omega
      · by_cases h130 : a = 130
        · -- the newer line
          rcases hs with ⟨q1, q2⟩ | ⟨s, q0, q1, q2⟩
          · refine ⟨0, en, f, 1, nI n, sh, cd, nI k, nI l, ll, lcd, nI E, ec, cd', nI n, sh', ls, ln, ⟨hB, k, l, E, rfl, rfl, rfl, by omega, hL, hRd⟩, ?_, ?_⟩
            · intro pa_letters pa_used di_separators di_entriesAt di_size di_entries pr_starts pr_lengths pr_entries pr_words pr_textFrom pr_textEnd K hK
              refine ok_isEndC hV htb ?_
              rw [h0]
              exact br_t rfl (bs_t h8 (bs_t h129 (bs_f h130 (br_t q1 (hK _ _ _ _ _ _ _ _ _ _ _ _)))))
            · intro lt lm pk me ms mm wf wz we K hK
              refine bs_t n10 (inA (bs_t (by decide) (ok_isEndM hV htb ?_)))
              rw [h0]
              refine br_t rfl (bs_t h8 (bs_t h129 (fun J164 h164 => bs_f h130 (br_t q2 (h164 (ok_inI (A := 32) (B := 126) rfl rfl (fun _ w => absurd w (by rw [h130]; decide)) (fun _ J188 h188 => bs_f rfl (ok_inI (A := 155) (B := 251) rfl rfl (fun w _ => absurd w (by rw [h130]; decide)) (fun _ => br_t rfl (hK _ _ _ _ _ _ _ _ _))))))))))
          · have ns : ¬ sh = -1 := fun w => by
              rw [q1] at w
              have h3 : (nI s).toInt = (s : Int) := nI_toInt (by omega)
              rw [w] at h3
              have h4 : (-1 : Int32).toInt = -1 := rfl
              omega
            have ns' : ¬ sh' = -1 := fun w => by
              rw [q2] at w
              have h3 : (nI (k - 1 - s)).toInt = ((k - 1 - s : Nat) : Int) := nI_toInt (by omega)
              rw [w] at h3
              have h4 : (-1 : Int32).toInt = -1 := rfl
              omega
            have e2 : sh' + 1 = nI (k - s) := by
              rw [q2, nI_1]
              congr 1
              omega
            rcases Nat.eq_zero_or_pos s with z | z
            · refine ⟨0, en, f, 1, 0, -1, cd, nI k, nI l, ll, lcd, nI E, ec, cd', 0, -1, ls, ln, ⟨hB, k, l, E, rfl, rfl, rfl, by omega, hL, mkR 0 (-1) (-1) _ _ (Nat.zero_le _) (fun i hi => absurd hi (Nat.not_lt_zero i)) (Or.inl ⟨rfl, rfl⟩)⟩, ?_, ?_⟩
              · intro pa_letters pa_used di_separators di_entriesAt di_size di_entries pr_starts pr_lengths pr_entries pr_words pr_textFrom pr_textEnd K hK
                refine ok_isEndC hV htb ?_
                rw [h0]
                have e1 : sh - 1 = -1 := by rw [q1, z]; decide
                refine br_t rfl (bs_t h8 (bs_t h129 (bs_f h130 (br_f ns ?_))))
                rw [e1]
                exact ok_showC_out hk (Or.inl (by decide)) (hK _ _ _ _ _ _ _ _ _ _ _ _)
              · intro lt lm pk me ms mm wf wz we K hK
                refine bs_t n10 (inA (bs_t (by decide) (ok_isEndM hV htb ?_)))
                rw [h0]
                refine br_t rfl (bs_t h8 (bs_t h129 (fun J164 h164 => bs_f h130 (br_f ns' (br_t ?_ (hK _ _ _ _ _ _ _ _ _))))))
                rw [e2]
                exact nI_le (by omega) (by omega)
            · obtain ⟨len, l0, l1, l2, l3, hR2⟩ := shw (s - 1) (by omega)
              have er : k - 1 - (s - 1) = k - s := by omega
              rw [er] at l3 hR2
              refine ⟨0, en, f, 1, nI (min len lim), nI (s - 1), (blk cd 0 (fun i => lcd ((l + 8 - (s - 1)) % 8 * 255 + i)) (min len lim)), nI k, nI l, ll, lcd, nI E, ec, (blk cd' 0 (fun i => ln (256 * (k - s) + i)) (min len lim)), nI (min len lim), nI (k - s), ls, ln, ⟨hB, k, l, E, rfl, rfl, rfl, by omega, hL, hR2⟩, ?_, ?_⟩
              · intro pa_letters pa_used di_separators di_entriesAt di_size di_entries pr_starts pr_lengths pr_entries pr_words pr_textFrom pr_textEnd K hK
                refine ok_isEndC hV htb ?_
                rw [h0]
                have e1 : sh - 1 = nI (s - 1) := by rw [q1]; exact pk_sub (b := 1) (by omega)
                refine br_t rfl (bs_t h8 (bs_t h129 (bs_f h130 (br_f ns ?_))))
                rw [e1]
                exact ok_showC hlim hk hl (by omega) l2 l1 (hK _ _ _ _ _ _ _ _ _ _ _ _)
              · intro lt lm pk me ms mm wf wz we K hK
                refine bs_t n10 (inA (bs_t (by decide) (ok_isEndM hV htb ?_)))
                rw [h0]
                refine br_t rfl (bs_t h8 (bs_t h129 (fun J164 h164 => bs_f h130 (br_f ns' (br_f ?_ ?_)))))
                · rw [e2]
                  exact nI_ge (by omega) (by omega)
                · rw [e2]
                  exact ok_showM hlim (by omega) l3 l1 (hK _ _ _ _ _ _ _ _ _)
        · -- a letter, or nothing
          by_cases q : (32 ≤ a.toInt ∧ a.toInt ≤ 126) ∨ (155 ≤ a.toInt ∧ a.toInt ≤ 251)
          · rcases Nat.lt_or_ge n lim with w | w
            · obtain ⟨v, hv1, hv2, hv3⟩ : ∃ v : Int32, (65 ≤ a.toInt → a.toInt ≤ 90 → v = a + 32) ∧ ((a.toInt < 65 ∨ 90 < a.toInt) → v = a) ∧ ∃ c, c < 256 ∧ v = nI c := by
                by_cases y : 65 ≤ a.toInt ∧ a.toInt ≤ 90
                · refine ⟨a + 32, fun _ _ => rfl, fun z => absurd z (by omega), a.toInt.toNat + 32, by omega, ?_⟩
                  conv => lhs; rw [i_nI ha]
                  exact nI_add _ 32
                · exact ⟨a, fun z1 z2 => absurd ⟨z1, z2⟩ y, fun _ => rfl, a.toInt.toNat, by omega, i_nI ha⟩
              refine ⟨0, en, f, 1, nI (n + 1), sh, (upd cd n v), nI k, nI l, ll, lcd, nI E, ec, (upd cd' n v), nI (n + 1), sh', ls, ln, ⟨hB, k, l, E, rfl, rfl, rfl, by omega, hL, mkR _ _ _ _ _ (by omega) (fun i hi => ?_) hs⟩, ?_, ?_⟩
              · rcases Nat.lt_or_ge i n with y | y
                · rw [pk_un (by omega), pk_un (by omega)]
                  exact hc i y
                · rw [show i = n by omega, pk_us, pk_us]
                  exact ⟨rfl, hv3⟩
              · intro pa_letters pa_used di_separators di_entriesAt di_size di_entries pr_starts pr_lengths pr_entries pr_words pr_textFrom pr_textEnd K hK
                refine ok_isEndC hV htb ?_
                rw [h0]
                refine br_t rfl (bs_t h8 (bs_t h129 (bs_t h130 (ok_typable (fun _ => br_f (by decide) (ok_lower (fun y1 y2 => ?_) (fun y => ?_))) (fun z => absurd q z)))))
                · rw [← hv1 y1 y2]
                  exact ok_add7 w hlim (hK _ _ _ _ _ _ _ _ _ _ _ _)
                · refine ok_add7 w hlim ?_
                  have := hK
                  rw [hv2 y] at this
                  exact this _ _ _ _ _ _ _ _ _ _ _ _
              · intro lt lm pk me ms mm wf wz we K hK
                refine bs_t n10 (inA (bs_t (by decide) (ok_isEndM hV htb ?_)))
                rw [h0]
                have fin : (((nI lim ≤ nI n) → (K 0 f lt lm pk me ms mm wf wz we 1 cd' (nI n) sh' en ls ln (nI k) ec (nI E))) ∧ ((¬ nI lim ≤ nI n) → (wp_X10_in a 65 90 (fun (r_4 : Int32) => ∀ J226 : Int32 → Int32 → Prop, (∀ (y_1 : Int32) (y_2 : Int32), (vp_in y_2 256 ∧ (∀ v_1 : Int32, v_1 = (nI n + 1) → (K 0 f lt lm pk me ms mm wf wz we 1 (upd cd' (Int32.toNatClampNeg y_2) y_1) v_1 sh' en ls ln (nI k) ec (nI E)))) → J226 y_1 y_2) → (((r_4 = 0) → (J226 a (nI n))) ∧ ((¬ r_4 = 0) → (J226 (a + 32) (nI n)))))))) := by
                  have hJ : ∀ {J226 : Int32 → Int32 → Prop}, (∀ (y_1 : Int32) (y_2 : Int32), (vp_in y_2 256 ∧ (∀ v_1 : Int32, v_1 = (nI n + 1) → (K 0 f lt lm pk me ms mm wf wz we 1 (upd cd' (Int32.toNatClampNeg y_2) y_1) v_1 sh' en ls ln (nI k) ec (nI E)))) → J226 y_1 y_2) → J226 v (nI n) := fun {J226} h226 => by
                    refine h226 _ _ ⟨vp_in_nI (by omega) (by decide), nm_r (nI_1 n) ?_⟩
                    rw [nI_clamp (by omega)]
                    exact hK _ _ _ _ _ _ _ _ _
                  refine br_f (nI_ge w (by omega)) (ok_inI (A := 65) (B := 90) rfl rfl (fun y1 y2 J226 h226 => br_f (by decide) ?_) (fun y J226 h226 => br_t rfl ?_))
                  · have := hJ h226
                    rw [hv1 y1 y2] at this
                    exact this
                  · have := hJ h226
                    rw [hv2 y] at this
                    exact this
                refine br_t rfl (bs_t h8 (bs_t h129 (fun J164 h164 => bs_t h130 (h164 (ok_inI (A := 32) (B := 126) rfl rfl (fun _ _ J188 h188 => bs_t (by decide) (h188 fin)) (fun y1 J188 h188 => bs_f rfl (ok_inI (A := 155) (B := 251) rfl rfl (fun _ _ => br_f (by decide) (h188 fin)) (fun y2 => absurd q (by clear h188 fin hK; omega)))))))))
            · refine ⟨0, en, f, 1, nI n, sh, cd, nI k, nI l, ll, lcd, nI E, ec, cd', nI n, sh', ls, ln, ⟨hB, k, l, E, rfl, rfl, rfl, by omega, hL, hRd⟩, ?_, ?_⟩
              · intro pa_letters pa_used di_separators di_entriesAt di_size di_entries pr_starts pr_lengths pr_entries pr_words pr_textFrom pr_textEnd K hK
                refine ok_isEndC hV htb ?_
                rw [h0]
                refine br_t rfl (bs_t h8 (bs_t h129 (bs_t h130 (ok_typable (fun _ => br_f (by decide) (ok_lower (fun y1 y2 => ok_add7_full w (by omega) (hK _ _ _ _ _ _ _ _ _ _ _ _)) (fun y => ok_add7_full w (by omega) (hK _ _ _ _ _ _ _ _ _ _ _ _)))) (fun z => absurd q z)))))
              · intro lt lm pk me ms mm wf wz we K hK
                refine bs_t n10 (inA (bs_t (by decide) (ok_isEndM hV htb ?_)))
                rw [h0]
                have hle : nI lim ≤ nI n := nI_le w (by omega)
                refine br_t rfl (bs_t h8 (bs_t h129 (fun J164 h164 => bs_t h130 (h164 (ok_inI (A := 32) (B := 126) rfl rfl (fun _ _ J188 h188 => bs_t (by decide) (h188 (br_t hle (hK _ _ _ _ _ _ _ _ _)))) (fun y1 J188 h188 => bs_f rfl (ok_inI (A := 155) (B := 251) rfl rfl (fun _ _ => br_f (by decide) (h188 (br_t hle (hK _ _ _ _ _ _ _ _ _)))) (fun y2 => absurd q (by clear h188 hK; omega)))))))))
          · refine ⟨0, en, f, 1, nI n, sh, cd, nI k, nI l, ll, lcd, nI E, ec, cd', nI n, sh', ls, ln, ⟨hB, k, l, E, rfl, rfl, rfl, by omega, hL, hRd⟩, ?_, ?_⟩
            · intro pa_letters pa_used di_separators di_entriesAt di_size di_entries pr_starts pr_lengths pr_entries pr_words pr_textFrom pr_textEnd K hK
              refine ok_isEndC hV htb ?_
              rw [h0]
              exact br_t rfl (bs_t h8 (bs_t h129 (bs_t h130 (ok_typable (fun z => absurd z q) (fun _ => br_t rfl (hK _ _ _ _ _ _ _ _ _ _ _ _))))))
            · intro lt lm pk me ms mm wf wz we K hK
              refine bs_t n10 (inA (bs_t (by decide) (ok_isEndM hV htb ?_)))
              rw [h0]
              refine br_t rfl (bs_t h8 (bs_t h129 (fun J164 h164 => bs_t h130 (h164 (ok_inI (A := 32) (B := 126) rfl rfl (fun y1 y2 => absurd (Or.inl ⟨y1, y2⟩) q) (fun y1 J188 h188 => bs_f rfl (ok_inI (A := 155) (B := 251) rfl rfl (fun y2 y3 => absurd (Or.inr ⟨y2, y3⟩) q) (fun y2 => br_t rfl (hK _ _ _ _ _ _ _ _ _)))))))))
  · -- the READ ends
    obtain ⟨r, g, k2, la2, ll2, lcd2, ls2, ln2, ec2, hg, hL2, eC, eM⟩ := sim_ends (t := t) (p := p) (d := d) (n := n) (E := E) (ec := ec) (a := a) hV hB ht2 hp hd (by omega) (by omega) hc hL (by omega)
    refine ⟨r, a, g, 0, nI n, sh, cd, nI k2, nI la2, ll2, lcd2, nI (E + n + 1), ec2, cd', nI n, sh', ls2, ln2, ⟨hg, k2, la2, E + n + 1, rfl, rfl, rfl, by omega, hL2, ⟨Or.inl rfl, fun w => absurd w (by decide)⟩⟩, ?_, ?_⟩
    · intro pa_letters pa_used di_separators di_entriesAt di_size di_entries pr_starts pr_lengths pr_entries pr_words pr_textFrom pr_textEnd K hK
      refine ok_isEndC hV htb ?_
      rw [h0]
      exact br_f (by decide) (eC (K := fun r e m x1 x2 x3 x4 x5 x6 x7 x8 x9 x10 x11 x12 o a1 a2 a3 a4 a5 a6 => K r e m x1 x2 x3 x4 x5 x6 x7 x8 x9 x10 x11 x12 o (nI n) sh cd a1 a2 a3 a4 a5 a6) hK)
    · intro lt lm pk me ms mm wf wz we K hK
      refine bs_t n10 (inA (bs_t (by decide) (ok_isEndM hV htb ?_)))
      rw [h0]
      exact br_f (by decide) (eM (K := fun r m y1 y2 y3 y4 y5 y6 y7 y8 y9 o e a1 a2 a3 a4 a5 => K r m y1 y2 y3 y4 y5 y6 y7 y8 y9 o cd' (nI n) sh' e a1 a2 a3 a4 a5) hK)
