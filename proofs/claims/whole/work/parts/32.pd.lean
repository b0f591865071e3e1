-- PURE 13: parsing, the reference's words; parse
def plain (f : Nat → Int32) (d i : Nat) : Prop := ¬ isSep f d (gv f i) ∧ gv f i ≠ 32
theorem wds_run {f : Nat → Int32} {d a e : Nat} : ∀ n, a + n ≤ e → (∀ j, j < n → plain f d (a + j)) → wds f d (e - a) a a = wds f d (e - (a + n)) (a + n) a := by
  intro n
  induction n with
  | zero => intro _ _; rfl
  | succ n ih =>
    intro h1 h2
    rw [ih (by omega) (fun j hj => h2 j (by omega))]
    obtain ⟨p1, p2⟩ := h2 n (by omega)
    rw [show e - (a + n) = (e - (a + (n + 1))) + 1 by omega, wds_s, if_neg (fun z => p1 (sepB_t.mp z)), if_neg p2]
    rfl
theorem wd_0 (b i : Nat) (h : i ≤ b) : wd b (i - b) = [] := if_pos (by omega)
theorem wd_p (b i : Nat) (h : b < i) : wd b (i - b) = [(b, i - b)] := if_neg (by omega)
theorem T_e {f : Nat → Int32} {d e : Nat} : wds f d (e - e) e e = [] := by
  rw [Nat.sub_self]
  exact wd_0 e e (Nat.le_refl _)
theorem T_n {f : Nat → Int32} {d a e n : Nat} (hn : n ≠ 0) (he : a + n ≤ e) (hr : ∀ j, j < n → plain f d (a + j)) (hs : a + n = e ∨ gv f (a + n) = 32 ∨ isSep f d (gv f (a + n))) : wds f d (e - a) a a = (a, n) :: wds f d (e - (a + n)) (a + n) (a + n) := by
  rw [wds_run n he hr]
  have hw : wd a (a + n - a) = [(a, n)] := by rw [wd_p a (a + n) (by omega)]; congr 2; omega
  by_cases q : a + n = e
  · rw [q, T_e, Nat.sub_self]
    rw [q] at hw
    exact hw
  · have h2 : e - (a + n) = (e - (a + n) - 1) + 1 := by omega
    rw [h2, wds_s, wds_s, hw, wd_0 (a + n) (a + n) (Nat.le_refl _)]
    by_cases s : isSep f d (gv f (a + n))
    · rw [if_pos (sepB_t.mpr s), if_pos (sepB_t.mpr s)]
      rfl
    · have c : gv f (a + n) = 32 := by
        rcases hs with z | z | z
        · exact absurd z q
        · exact z
        · exact absurd z s
      rw [if_neg (fun z => s (sepB_t.mp z)), if_pos c, if_neg (fun z => s (sepB_t.mp z)), if_pos c]
      rfl
theorem T_s {f : Nat → Int32} {d a e : Nat} (he : a < e) (s : isSep f d (gv f a)) : wds f d (e - a) a a = (a, 1) :: wds f d (e - (a + 1)) (a + 1) (a + 1) := by
  rw [show e - a = (e - (a + 1)) + 1 by omega, wds_s, if_pos (sepB_t.mpr s), wd_0 a a (Nat.le_refl _)]
  rfl
theorem T_32 {f : Nat → Int32} {d a e : Nat} (he : a < e) (s : ¬ isSep f d (gv f a)) (c : gv f a = 32) : wds f d (e - a) a a = wds f d (e - (a + 1)) (a + 1) (a + 1) := by
  rw [show e - a = (e - (a + 1)) + 1 by omega, wds_s, if_neg (fun z => s (sepB_t.mp z)), if_pos c, wd_0 a a (Nat.le_refl _)]
  rfl
theorem ok_pmM {V t p d : Nat} {f lt pk wf wz we : Nat → Int32} {lm me ms mm fl : Int32} {K : Int32 → (Nat → Int32) → (Nat → Int32) → Int32 → (Nat → Int32) → Int32 → Int32 → Int32 → (Nat → Int32) → (Nat → Int32) → (Nat → Int32) → Prop} (hV : V < 9) (hB : Byt f) (ht : t ≤ 4000) (hp : p ≤ 4000) (hd : d ≤ 4000) (tok : txOK V f t) (h1 : pOK V f t p d → ∀ x1 x2 x3 x4 x5 x6 x7 x8 x9, K (nI (WL V f t d).length) (telF V f t p d fl (mny V f t p d)) x1 x2 x3 x4 x5 x6 x7 x8 x9) (h0 : ¬ pOK V f t p d → ∀ x1 x2 x3 x4 x5 x6 x7 x8 x9, K (-3) f x1 x2 x3 x4 x5 x6 x7 x8 x9) : pmM (nI V) f lt lm pk me ms mm wf wz we (nI t) (nI p) (nI d) fl K (nI (txF V t)) (nI (txE V f t)) := by
  have htE := txOK_le tok
  have hFE := txFE (V := V) (f := f) (t := t)
  refine ok_isThere hV hB hd (fun dok => br_f (by decide) ?_) (fun nd e' s' m' => br_t rfl (h0 (fun z => nd z.2.1) _ _ _ _ _ _ _ _ _))
  have ep : (Int32.toInt64 (nI p)).toInt = p := by rw [l_ti, nI_toInt (by omega)]
  refine ok_within (k := 2) rfl (by decide) (by rw [ep]; omega) (by rw [ep]; omega) ?_
  rw [ep, inMb_t (by unfold inM; omega)]
  refine bs_t (by decide) ?_
  intro L hL
  obtain ⟨e, ee⟩ : ∃ e, e = txE V f t := ⟨_, rfl⟩
  obtain ⟨a0, ea⟩ : ∃ a0, a0 = txF V t := ⟨_, rfl⟩
  have hWL : WL V f t d = wds f d (e - a0) a0 a0 := by rw [ee, ea]; rfl
  rw [← ee] at hL htE hFE
  rw [← ea] at hFE ⊢
  have ex : ∀ (acc : List (Nat × Nat)) wf wz, Wst 4096 acc wf wz → acc = WL V f t d → L (nI acc.length) (nI e) wf wz := fun acc wf wz hw hx => by
    rw [hx] at hw ⊢
    exact hL _ _ _ _ (br_t (nI_le (Nat.le_refl _) (by omega)) (ok_pmT hV hB ht hp tok dok hw h1 h0))
  have key : ∀ n a (acc : List (Nat × Nat)) wf wz, e - a ≤ n → a0 ≤ a → a ≤ e → acc.length ≤ a - a0 → Wst 4096 acc wf wz → acc ++ wds f d (e - a) a a = WL V f t d → L (nI acc.length) (nI a) wf wz := by
    intro n
    induction n with
    | zero =>
      intro a acc wf wz hn ha hae hlen hw hx
      have : a = e := by omega
      subst this
      rw [T_e, List.append_nil] at hx
      exact ex acc wf wz hw hx
    | succ n ih =>
      intro a acc wf wz hn ha hae hlen hw hx
      by_cases q : a = e
      · subst q
        rw [T_e, List.append_nil] at hx
        exact ex acc wf wz hw hx
      have hlt : a < e := by omega
      have hw4 : acc.length < 4096 := by omega
      have stop : ∀ k, a + k ≤ e → (∀ j, j < k → plain f d (a + j)) → (a + k = e ∨ gv f (a + k) = 32 ∨ isSep f d (gv f (a + k))) → pmS L f (nI d) (nI acc.length) (nI a) wf wz (nI k) := by
        intro k hk hr hs
        refine ok_pmS hB dok.1 (by omega) (by omega) hw4 (fun k0 s0 => ?_) (fun k0 s1 => ?_) (fun kn => ?_)
        · subst k0
          have c : gv f a = 32 := by
            rcases hs with z | z | z
            · omega
            · exact z
            · exact absurd z s0
          refine ih (a + 1) acc wf wz (by omega) (by omega) (by omega) (by omega) hw ?_
          rw [← hx, T_32 hlt s0 c]
        · have hl1 : (acc ++ [(a, 1)]).length = acc.length + 1 := by simp
          have := ih (a + 1) (acc ++ [(a, 1)]) _ _ (by omega) (by omega) (by omega) (by rw [hl1]; omega) (hw.add (s := a) (l := 1)) (by rw [← hx, T_s hlt s1, List.append_assoc]; rfl)
          rw [hl1] at this
          exact this
        · have hl1 : (acc ++ [(a, k)]).length = acc.length + 1 := by simp
          have := ih (a + k) (acc ++ [(a, k)]) _ _ (by omega) (by omega) (by omega) (by rw [hl1]; omega) (hw.add (s := a) (l := k)) (by rw [← hx, T_n kn hk hr hs, List.append_assoc]; rfl)
          rw [hl1] at this
          exact this
      refine hL _ _ _ _ (br_f (nI_ge hlt (by omega)) ?_)
      intro L2 hL2
      have key2 : ∀ m k, a + k + m = e → (∀ j, j < k → plain f d (a + j)) → L2 (nI k) := by
        intro m
        induction m with
        | zero =>
          intro k hk hr
          have hst := stop k (by omega) hr (Or.inl (by omega))
          have hle : nI e ≤ nI (a + k) := nI_le (by omega) (by omega)
          refine hL2 _ (fun J hJ => ?_)
          rw [nI_add]
          exact br_t hle (hJ hst)
        | succ m ih2 =>
          intro k hk hr
          have hg := gv_ok hB (a + k)
          have nle : ¬ nI e ≤ nI (a + k) := nI_ge (by omega) (by omega)
          have va : vp_in (nI (a + k)) 4096 := vp_in_nI (by omega) (by decide)
          have ca : (nI (a + k)).toNatClampNeg = a + k := nI_clamp (by omega)
          have e32 : nI (gv f (a + k)) = 32 ↔ gv f (a + k) = 32 := nI_eq (b := 32) (by omega) (by decide)
          have hke : a + k ≤ e := by omega
          have hk1 : a + (k + 1) + m = e := by omega
          refine hL2 _ (fun J hJ => ?_)
          rw [nI_add, ca, hg.2, nI_1]
          refine br_f nle ⟨va, br_c (fun c => hJ (stop k hke hr (Or.inr (Or.inl (e32.mp c))))) (fun c => ⟨va, ok_isSep hB dok.1 hg.1 (fun s1 => bs_t (by decide) (hJ (stop k hke hr (Or.inr (Or.inr s1))))) (fun s0 => bs_f rfl (ih2 (k + 1) hk1 (fun j hj => ?_)))⟩)⟩
          rcases Nat.lt_or_ge j k with w1 | w1
          · exact hr j w1
          · have : j = k := Nat.le_antisymm (Nat.le_of_lt_succ hj) w1
            subst this
            exact ⟨s0, fun z => c (e32.mpr z)⟩
      exact key2 (e - a) 0 (by omega) (fun j hj => absurd hj (Nat.not_lt_zero j))
  exact key (e - a0) a0 [] wf wz (Nat.le_refl _) (Nat.le_refl _) hFE (Nat.zero_le _) Wst.nil (by rw [hWL]; rfl)
theorem ok_parses {V t p d : Nat} {f lt pk wf wz we : Nat → Int32} {lm me ms mm fl : Int32} {K : Int32 → (Nat → Int32) → (Nat → Int32) → Int32 → (Nat → Int32) → Int32 → Int32 → Int32 → (Nat → Int32) → (Nat → Int32) → (Nat → Int32) → Prop} (hV : V < 9) (hB : Byt f) (ht : t ≤ 4000) (hp : p ≤ 4000) (hd : d ≤ 4000) (h1 : pOK V f t p d → ∀ x1 x2 x3 x4 x5 x6 x7 x8 x9, K (nI (WL V f t d).length) (telF V f t p d fl (mny V f t p d)) x1 x2 x3 x4 x5 x6 x7 x8 x9) (h0 : ¬ pOK V f t p d → ∀ x1 x2 x3 x4 x5 x6 x7 x8 x9, K (-3) f x1 x2 x3 x4 x5 x6 x7 x8 x9) : wp_X10_parses (nI V) f lt lm pk me ms mm wf wz we (nI t) (nI p) (nI d) fl K := by
  have main : txOK V f t → pmM (nI V) f lt lm pk me ms mm wf wz we (nI t) (nI p) (nI d) fl K (nI (txF V t)) (nI (txE V f t)) := fun tok => ok_pmM hV hB ht hp hd tok h1 h0
  have bad : ¬ txOK V f t → ∀ x1 x2 x3 x4 x5 x6 x7 x8 x9, K (-3) f x1 x2 x3 x4 x5 x6 x7 x8 x9 := fun nt => h0 (fun z => nt z.1)
  intro J14 h14
  by_cases q : V ≤ 4
  · have e2 : txF V t = t + 1 := if_pos q
    have e3 : txE V f t = zE f (4096 - (t + 1)) (t + 1) := if_pos q
    have e4 : txOK V f t = (txE V f t < 4096) := if_pos q
    have n4 : ¬ 4 < nI V := nI_nlt (a := 4) q (by decide)
    have hst : t + 1 + (4096 - (t + 1)) = 4096 := by omega
    refine br_f n4 (h14 _ _ (nm_r (nI_1 t) ?_))
    intro J109 h109
    refine br_f n4 ?_
    intro L hL
    have key : ∀ m i, i + m = 4096 → zE f m i = txE V f t → L (nI i) := by
      intro m
      induction m with
      | zero =>
        intro i hi he
        have hi4 : i = 4096 := hi
        subst hi4
        have hb : ¬ txOK V f t := by rw [e4, ← he]; exact Nat.lt_irrefl 4096
        exact hL _ (fun J hJ => br_t (by decide) (hJ (br_f (by decide) (bad hb _ _ _ _ _ _ _ _ _))))
      | succ m ih =>
        intro i hi he
        have hi4 : i < 4096 := by rw [← hi]; exact Nat.lt_add_of_pos_right (Nat.succ_pos m)
        rw [zE_s] at he
        have hg := gv_ok hB i
        have n1 : ¬ 4096 ≤ nI i := nI_ge (b := 4096) hi4 (by decide)
        have n2 : nI i < 4096 := nI_lt (b := 4096) hi4 (by decide)
        have z : nI (gv f i) = 0 ↔ gv f i = 0 := nI_eq (b := 0) (Nat.lt_trans hg.1 (by decide)) (by decide)
        have va : vp_in (nI i) 4096 := vp_in_nI hi4 (by decide)
        have ca : (nI i).toNatClampNeg = i := nI_clamp (Nat.lt_trans hi4 (by decide))
        refine hL _ (fun J hJ => ?_)
        rw [ca, hg.2, nI_1]
        refine br_f n1 ⟨va, br_c (fun w => hJ (br_t n2 (h109 _ ?_))) (fun w => ih (i + 1) ?_ ?_)⟩
        · rw [if_pos (z.mp w)] at he
          have hok : txOK V f t := by rw [e4, ← he]; exact hi4
          have := main hok
          rw [e2, ← he] at this
          exact this
        · rw [← hi, Nat.add_assoc, Nat.add_comm 1 m]
        · rw [if_neg (fun z2 => w (z.mpr z2))] at he
          exact he
    exact key (4096 - (t + 1)) (t + 1) hst e3.symm
  · have e2 : txF V t = t + 2 := if_neg q
    have e3 : txE V f t = t + 2 + gv f (t + 1) := if_neg q
    have e4 : txOK V f t = (txE V f t ≤ 4096) := if_neg q
    have n4 : 4 < nI V := nI_lt (a := 4) (by omega) (by omega)
    have hg := gv_ok hB (t + 1)
    have va : vp_in (nI (t + 1)) 4096 := vp_in_nI (by omega) (by decide)
    have ca : (nI (t + 1)).toNatClampNeg = t + 1 := nI_clamp (by omega)
    have et1 : (Int32.toInt64 (nI (t + 1))).toInt = (t : Int) + 1 := by rw [l_ti, nI_toInt (by omega)]; omega
    have et2 : (Int32.toInt64 (nI (t + 2))).toInt = (t : Int) + 2 := by rw [l_ti, nI_toInt (by omega)]; omega
    have eg : (Int32.toInt64 (nI (gv f (t + 1)))).toInt = (gv f (t + 1) : Nat) := by rw [l_ti, nI_toInt (by omega)]
    have w1 : ∀ {K2 : Int32 → Prop}, K2 1 → wp_X10_within (Int32.toInt64 (nI (t + 1))) 1 K2 := fun {K2} hk => ok_within (k := 1) rfl (by decide) (by rw [et1]; omega) (by rw [et1]; omega) (by rw [et1, inMb_t (by unfold inM; omega)]; exact hk)
    have w2 : ∀ {K2 : Int32 → Prop}, (txE V f t ≤ 4096 → K2 1) → (¬ txE V f t ≤ 4096 → K2 0) → wp_X10_within (Int32.toInt64 (nI (t + 2))) (Int32.toInt64 (nI (gv f (t + 1)))) K2 := fun {K2} ha hb => ok_within (k := gv f (t + 1)) eg (by omega) (by rw [et2]; omega) (by rw [et2]; omega) (by
      rw [et2]
      by_cases w : txE V f t ≤ 4096
      · rw [inMb_t (by unfold inM; omega)]; exact ha w
      · rw [inMb_f (by unfold inM; omega)]; exact hb w)
    refine br_t n4 (h14 _ _ (nm_r (e' := nI (t + 2)) (nI_add t 2) ?_))
    intro J109 h109
    rw [nI_1, ca, hg.2]
    refine br_t n4 (w1 (br_f (by decide) ⟨va, w2 (fun w => bs_t (by decide) ⟨va, nm_r (nI_add _ _) (h109 _ ?_)⟩) (fun w => bs_f rfl (bad (by rw [e4]; exact w) _ _ _ _ _ _ _ _ _))⟩))
    have := main (by rw [e4]; exact w)
    rw [e2, e3] at this
    exact this
