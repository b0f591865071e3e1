-- PURE 7: dictionaries
def dn (f : Nat → Int32) (d : Nat) : Nat := gv f d
def dsz (f : Nat → Int32) (d : Nat) : Nat := gv f (d + dn f d + 1)
def dc0 (f : Nat → Int32) (d : Nat) : Nat := gv f (d + dn f d + 2) * 256 + gv f (d + dn f d + 3)
def dct (f : Nat → Int32) (d : Nat) : Nat := if dc0 f d < 32768 then dc0 f d else 65536 - dc0 f d
def dat (f : Nat → Int32) (d : Nat) : Nat := d + dn f d + 4
/-- all of a dictionary lies within MEMORY -/
def dOK (V : Nat) (f : Nat → Int32) (d : Nat) : Prop := dat f d ≤ 4096 ∧ (dct f d = 0 ∨ dat f d + ((dct f d - 1) * dsz f d + max (dsz f d) (szV V)) ≤ 4096)
def isSep (f : Nat → Int32) (d c : Nat) : Prop := ∃ i, i < dn f d ∧ gv f (d + 1 + i) = c
def SepOK (f : Nat → Int32) (d : Nat) (sp : Nat → Int32) : Prop := ∀ c, c < 256 → (sp c = 0 ↔ ¬ isSep f d c)
theorem dct_lt {f : Nat → Int32} {d : Nat} (hB : Byt f) : dct f d ≤ 32768 ∧ dc0 f d < 65536 := by
  have h1 := (gv_ok hB (d + dn f d + 2)).1
  have h2 := (gv_ok hB (d + dn f d + 3)).1
  unfold dct dc0
  split <;> omega
theorem nar0 : vp_nar .boolean 0 = 0 := rfl
theorem nar1 : vp_nar .boolean 1 = 1 := rfl
theorem ok_mark {f sp : Nat → Int32} {d : Nat} {K : (Nat → Int32) → Prop} (hB : Byt f) (hd : d + dn f d + 4 ≤ 4096) (h : ∀ sp', SepOK f d sp' → K sp') : wp_X1_markSeparators f sp (nI d + 1) (f d) K := by
  have hn := gv_ok hB d
  rw [hn.2, nI_1]
  intro L hL
  have key : ∀ i, i ≤ 256 → ∀ s1 : Nat → Int32, (∀ c, c < i → s1 c = 0) → L (nI i) s1 := by
    refine for_up (P := fun i => ∀ s1 : Nat → Int32, (∀ c, c < i → s1 c = 0) → L (nI i) s1) ?_ (fun i hi ih => ?_)
    · intro s1 h1
      refine hL _ _ (br_t (by decide) ?_)
      intro L2 hL2
      have key2 : ∀ i, i ≤ gv f d → ∀ s2 : Nat → Int32, (∀ c, c < 256 → (s2 c = 0 ↔ ¬ ∃ k, k < i ∧ gv f (d + 1 + k) = c)) → L2 (nI i) s2 := by
        refine for_up (P := fun i => ∀ s2 : Nat → Int32, (∀ c, c < 256 → (s2 c = 0 ↔ ¬ ∃ k, k < i ∧ gv f (d + 1 + k) = c)) → L2 (nI i) s2) ?_ (fun i hi ih => ?_)
        · intro s2 h2
          exact hL2 _ _ (br_t (nI_le (Nat.le_refl _) (by omega)) (h s2 h2))
        · intro s2 h2
          have hg := gv_ok hB (d + 1 + i)
          have hdn : dn f d = gv f d := rfl
          have hi4 : d + 1 + i < 4096 := by omega
          refine hL2 _ _ (br_f (nI_ge hi (by omega)) ?_)
          rw [nI_add]
          refine ok_octet hi4 ?_
          rw [hg.2, nI_1, nar1]
          have e1 : ¬ nI (gv f (d + 1 + i)) < 0 := nI_pos (by omega)
          have e2 : ¬ 256 ≤ nI (gv f (d + 1 + i)) := nI_ge (b := 256) hg.1 (by decide)
          have e3 : vp_in (nI (gv f (d + 1 + i))) 256 := vp_in_nI hg.1 (by decide)
          have e4 : (nI (gv f (d + 1 + i))).toNatClampNeg = gv f (d + 1 + i) := nI_clamp (by omega)
          rw [e4]
          intro J hJ
          refine br_f e1 (br_f e2 ⟨e3, hJ _ (ih _ (fun c hc => ?_))⟩)
          by_cases e : c = gv f (d + 1 + i)
          · subst e
            rw [pk_us]
            exact ⟨fun w => absurd w (by decide), fun w => absurd ⟨i, Nat.lt_succ_self i, rfl⟩ w⟩
          · rw [pk_un e, h2 c hc]
            refine not_congr ⟨fun ⟨k, hk, ek⟩ => ⟨k, by omega, ek⟩, fun ⟨k, hk, ek⟩ => ⟨k, ?_, ek⟩⟩
            rcases Nat.lt_or_ge k i with w | w
            · exact w
            · have : k = i := by omega
              subst this
              exact absurd ek.symm e
      exact key2 0 (Nat.zero_le _) s1 (fun c hc => ⟨fun _ ⟨k, hk, _⟩ => absurd hk (Nat.not_lt_zero k), fun _ => h1 c hc⟩)
    · intro s1 h1
      refine hL _ _ (br_f (nI_ge (b := 256) hi (by decide)) ⟨vp_in_nI hi (by decide), ?_⟩)
      rw [nI_clamp (by omega), nI_1, nar0]
      refine ih _ (fun c hc => ?_)
      by_cases e : c = i
      · subst e
        rw [pk_us]
      · rw [pk_un e]
        exact h1 c (by omega)
  exact key 0 (Nat.zero_le _) sp (fun c hc => absurd hc (Nat.not_lt_zero c))
theorem ok_pair {f : Nat → Int32} {j : Nat} {K : Int32 → Prop} (hB : Byt f) (hj : j + 1 < 4096) (h : K (nI (gv f j * 256 + gv f (j + 1)))) : wp_X4_pair f (nI j) K := by
  refine ok_octet (by omega) ?_
  rw [nI_1]
  refine ok_octet hj ?_
  rw [(gv_ok hB j).2, (gv_ok hB (j + 1)).2, show (nI (gv f j) * 256 : Int32) = nI (gv f j * 256) from pk_mul _ 256, nI_add]
  exact h
theorem mx_eq {a b : Nat} (ha : a < 2 ^ 31) (hb : b < 2 ^ 31) : (if nI a < nI b then nI b else nI a) = nI (max a b) := by
  by_cases q : a < b
  · rw [if_pos (nI_lt q hb), Nat.max_eq_right (by omega)]
  · rw [if_neg (nI_nlt (by omega) ha), Nat.max_eq_left (by omega)]
theorem ok_open {V d : Nat} {f sp : Nat → Int32} {e s m : Int32} {K : Int32 → (Nat → Int32) → Int32 → Int32 → Int32 → Prop} (hB : Byt f) (hd : d ≤ 4000) (ht : dOK V f d → ∀ sp', SepOK f d sp' → K 1 sp' (nI (dat f d)) (nI (dsz f d)) (nI (dct f d))) (hf : ¬ dOK V f d → ∀ sp' e' s' m', K 0 sp' e' s' m') : wp_X1_open f (nI (szV V)) sp e s m (nI d) K := by
  have hn := gv_ok hB d
  have hdn : dn f d = gv f d := rfl
  have hszV : szV V = 4 ∨ szV V = 6 := by rcases szV_2 V with q | q <;> omega
  have hc := dct_lt (d := d) hB
  have hz := (gv_ok hB (d + dn f d + 1)).1
  refine ok_octet (by omega) ?_
  have e4 : f d + 4 = nI (dn f d + 4) := by rw [hn.2]; exact nI_add _ 4
  rw [e4]
  refine ok_holds (by omega) ?_
  rw [nI_toInt (by omega)]
  by_cases q : dat f d ≤ 4096
  · have q' : d + dn f d + 4 ≤ 4096 := q
    rw [inMb_t (by unfold inM; omega)]
    refine bs_t (by decide) ?_
    have a1 : nI d + f d = nI (d + dn f d) := by rw [hn.2]; exact nI_add _ _
    rw [a1, nI_1, show (nI (d + dn f d) + 2 : Int32) = nI (d + dn f d + 2) from nI_add _ 2, show (nI (d + dn f d) + 4 : Int32) = nI (dat f d) from nI_add _ 4]
    refine ok_octet (by omega) (ok_pair hB (by omega) ?_)
    rw [(gv_ok hB (d + dn f d + 1)).2]
    show ∀ J69 : Int32 → Prop, _ → (((32768 ≤ nI (dc0 f d)) → J69 (65536 - nI (dc0 f d))) ∧ ((¬ 32768 ≤ nI (dc0 f d)) → J69 (nI (dc0 f d))))
    have c1 : 32768 ≤ nI (dc0 f d) ↔ 32768 ≤ dc0 f d := nI_leI (a := 32768) (by decide) (by omega)
    have c2 : dc0 f d ≤ 65536 → (65536 : Int32) - nI (dc0 f d) = nI (65536 - dc0 f d) := fun w => pk_sub (a := 65536) w
    have hin : dct f d = 0 ∨ ¬ dct f d = 0 := by omega
    have e0 : nI (dct f d) = 0 ↔ dct f d = 0 := nI_eq (b := 0) (by omega) (by decide)
    have mx := mx_eq (a := dsz f d) (b := szV V) (by unfold dsz; omega) (by omega)
    have hz2 : dsz f d < 256 := hz
    have main : ∀ {J : Int32 → Prop}, (∀ y : Int32, (∀ v_1 : Int32, v_1 = nI (dat f d) → wp_X1_markSeparators f sp (nI d + 1) (f d) (fun s1 => ((y = 0) → K 1 s1 v_1 (nI (dsz f d)) y) ∧ ((¬ y = 0) → wp_X4_holds v_1 (((y - 1) * nI (dsz f d)) + (if nI (dsz f d) < nI (szV V) then nI (szV V) else nI (dsz f d))) (fun r_5 => ((r_5 = 0) → K 0 s1 v_1 (nI (dsz f d)) y) ∧ ((¬ r_5 = 0) → K 1 s1 v_1 (nI (dsz f d)) y))))) → J y) → J (nI (dct f d)) := by
      intro J hJ
      refine hJ _ (fun v ev => ?_)
      rw [ev]
      refine ok_mark hB q' (fun sp' hs => ?_)
      rw [mx]
      refine br_c (fun w => ?_) (fun w => ?_)
      · exact ht ⟨q, Or.inl (e0.mp w)⟩ sp' hs
      · have w2 : ¬ dct f d = 0 := fun z => w (e0.mpr z)
        have hb : (dct f d - 1) * dsz f d ≤ 32768 * 255 := Nat.mul_le_mul (by omega) (by omega)
        have hmx : max (dsz f d) (szV V) ≤ 255 := by omega
        rw [show (nI (dct f d) - 1 : Int32) = nI (dct f d - 1) from pk_sub (b := 1) (by omega), pk_mul, nI_add]
        refine ok_holds (by omega) ?_
        rw [nI_toInt (by omega)]
        by_cases q3 : dat f d + ((dct f d - 1) * dsz f d + max (dsz f d) (szV V)) ≤ 4096
        · rw [inMb_t (by unfold inM; omega)]
          exact br_f (by decide) (ht ⟨q, Or.inr q3⟩ sp' hs)
        · rw [inMb_f (by unfold inM; omega)]
          exact br_t rfl (hf (fun w3 => by unfold dOK at w3; omega) _ _ _ _)
    intro J69 h69
    have m69 := main h69
    clear h69 main
    by_cases q4 : dc0 f d < 32768
    · have : dct f d = dc0 f d := if_pos q4
      rw [this] at m69
      exact br_f (fun w => by have := c1.mp w; omega) m69
    · have : dct f d = 65536 - dc0 f d := if_neg q4
      rw [this] at m69
      rw [c2 (by omega)]
      exact br_t (c1.mpr (by omega)) m69
  · have q' : ¬ d + dn f d + 4 ≤ 4096 := q
    rw [inMb_f (by unfold inM; omega)]
    exact bs_f rfl (hf (fun w => q w.1) _ _ _ _)
