-- PURE 8: the reference's dictionary, separators, entries; look
theorem nI_or {a b : Nat} (ha : a < 256) (hb : b < 256) : (nI a <<< ((8 : Int32) &&& 31)) ||| nI b = nI (a * 256 + b) := by
  rw [show nI a <<< ((8 : Int32) &&& 31) = nI (a * 256) from pk_shlN _ 8 (by decide) (by omega)]
  apply Int32.toBitVec_inj.mp
  apply BitVec.eq_of_toNat_eq
  rw [Int32.toBitVec_or, BitVec.toNat_or, pk_tn (by omega), pk_tn (by omega), pk_tn (by omega)]
  have := Nat.shiftLeft_add_eq_or_of_lt (b := b) (i := 8) (by omega) a
  rw [Nat.shiftLeft_eq, show (2 : Nat) ^ 8 = 256 from rfl] at this
  exact this.symm
theorem ok_isThere {V d : Nat} {f : Nat → Int32} {e s m : Int32} {K : Int32 → Int32 → Int32 → Int32 → Prop} (hV : V < 9) (hB : Byt f) (hd : d ≤ 4000) (ht : dOK V f d → K 1 (nI (dat f d)) (nI (dsz f d)) (nI (dct f d))) (hf : ¬ dOK V f d → ∀ e' s' m', K 0 e' s' m') : wp_X10_isThere (nI V) f e s m (nI d) K := by
  have hn := gv_ok hB d
  have hdn : dn f d = gv f d := rfl
  have hszV : szV V = 4 ∨ szV V = 6 := by rcases szV_2 V with q | q <;> omega
  have hc := dct_lt (d := d) hB
  have hz := (gv_ok hB (d + dn f d + 1)).1
  have hz2 : dsz f d < 256 := hz
  have hzz : gv f (d + dn f d + 1) = dsz f d := rfl
  have ed : (nI d).toInt = d := nI_toInt (by omega)
  have cd : (nI d).toNatClampNeg = d := nI_clamp (by omega)
  refine ok_within (k := 1) rfl (by decide) (by rw [l_ti, ed]; omega) (by rw [l_ti, ed]; omega) ?_
  rw [l_ti, ed, inMb_t (by unfold inM; omega), cd]
  refine br_f (by decide) ⟨vp_in_nI (by omega) (by decide), ?_⟩
  have e4 : f d + 4 = nI (dn f d + 4) := by rw [hn.2]; exact nI_add _ 4
  rw [e4]
  refine ok_within (k := dn f d + 4) (by rw [l_ti, nI_toInt (by omega)]) (by omega) (by rw [l_ti, ed]; omega) (by rw [l_ti, ed]; omega) ?_
  rw [l_ti, ed]
  by_cases q : dat f d ≤ 4096
  · have q' : d + dn f d + 4 ≤ 4096 := q
    rw [inMb_t (by unfold inM; omega)]
    refine bs_t (by decide) ⟨vp_in_nI (by omega) (by decide), nm_r hn.2 ?_⟩
    have a1 : nI d + nI (gv f d) = nI (d + dn f d) := nI_add _ _
    rw [a1, nI_1, show (nI (d + dn f d) + 2 : Int32) = nI (d + dn f d + 2) from nI_add _ 2, show (nI (d + dn f d) + 3 : Int32) = nI (d + dn f d + 3) from nI_add _ 3, show (nI (d + dn f d) + 4 : Int32) = nI (dat f d) from nI_add _ 4]
    rw [nI_clamp (by omega), nI_clamp (by omega), nI_clamp (by omega)]
    refine ⟨vp_in_nI (by omega) (by decide), nm_r (gv_ok hB (d + dn f d + 1)).2 ⟨vp_in_nI (by omega) (by decide), vp_in_nI (by omega) (by decide), nm_r (e' := nI (dc0 f d)) ?_ ?_⟩⟩
    · rw [(gv_ok hB (d + dn f d + 2)).2, (gv_ok hB (d + dn f d + 3)).2]
      exact nI_or (gv_ok hB _).1 (gv_ok hB _).1
    have c1 : 32768 ≤ nI (dc0 f d) ↔ 32768 ≤ dc0 f d := nI_leI (a := 32768) (by decide) (by omega)
    have c2 : dc0 f d ≤ 65536 → (65536 : Int32) - nI (dc0 f d) = nI (65536 - dc0 f d) := fun w => pk_sub (a := 65536) w
    have e0 : nI (dct f d) = 0 ↔ dct f d = 0 := nI_eq (b := 0) (by omega) (by decide)
    intro J89 h89
    have m89 : J89 (nI (dct f d)) := by
      refine h89 _ (fun v ev => ?_)
      rw [ev]
      refine ok_pksz hV ?_
      intro J123 h123
      have m123 : J123 (nI (max (dsz f d) (szV V))) := by
        refine h123 _ ?_
        clear h123 h89
        refine br_c (fun w => ht ⟨q, Or.inl (e0.mp w)⟩) (fun w => ?_)
        have w2 : ¬ dct f d = 0 := fun z => w (e0.mpr z)
        have hb : (dct f d - 1) * dsz f d ≤ 32768 * 255 := Nat.mul_le_mul (by omega) (by omega)
        have hmx : max (dsz f d) (szV V) ≤ 255 := by omega
        have edat : (nI (dat f d)).toInt = dat f d := nI_toInt (by omega)
        show wp_X10_within (Int32.toInt64 (nI (dat f d))) ((Int32.toInt64 (nI (dct f d) - 1)) * (Int32.toInt64 (nI (dsz f d))) + Int32.toInt64 (nI (max (dsz f d) (szV V)))) _
        rw [show (nI (dct f d) - 1 : Int32) = nI (dct f d - 1) from pk_sub (b := 1) (by omega), nI_l (n := dct f d - 1) (by omega), nI_l (n := dsz f d) (by omega), nI_l (n := max (dsz f d) (szV V)) (by omega), lN_mul, lN_add]
        refine ok_within (k := (dct f d - 1) * dsz f d + max (dsz f d) (szV V)) (pk_lT (by omega)) (by omega) (by rw [l_ti, edat]; omega) (by rw [l_ti, edat]; omega) ?_
        rw [l_ti, edat]
        by_cases q3 : dat f d + ((dct f d - 1) * dsz f d + max (dsz f d) (szV V)) ≤ 4096
        · rw [inMb_t (by unfold inM; omega)]
          exact br_f (by decide) (ht ⟨q, Or.inr q3⟩)
        · rw [inMb_f (by unfold inM; omega)]
          exact br_t rfl (hf (fun w3 => by unfold dOK at w3; omega) _ _ _)
      clear h123 h89
      by_cases q5 : dsz f d ≤ szV V
      · rw [Nat.max_eq_right q5] at m123
        exact br_t (nI_le q5 (by omega)) (ok_pksz hV m123)
      · rw [Nat.max_eq_left (by omega)] at m123
        exact br_f (nI_ge (by omega) (by omega)) m123
    clear h89
    by_cases q4 : dc0 f d < 32768
    · have : dct f d = dc0 f d := if_pos q4
      rw [this] at m89
      exact br_f (fun w => by have := c1.mp w; omega) m89
    · have : dct f d = 65536 - dc0 f d := if_neg q4
      rw [this] at m89
      rw [c2 (by omega)]
      exact br_t (c1.mpr (by omega)) m89
  · have q' : ¬ d + dn f d + 4 ≤ 4096 := q
    rw [inMb_f (by unfold inM; omega)]
    exact bs_f rfl (hf (fun w => q w.1) _ _ _)
theorem ok_isSep {d c : Nat} {f : Nat → Int32} {K : Int32 → Prop} (hB : Byt f) (hd : dat f d ≤ 4096) (hc : c < 256) (ht : isSep f d c → K 1) (hf : ¬ isSep f d c → K 0) : wp_X10_isSeparator f (nI d) (nI c) K := by
  have hn := gv_ok hB d
  have hdn : dn f d = gv f d := rfl
  have hd' : d + dn f d + 4 ≤ 4096 := hd
  have cd : (nI d).toNatClampNeg = d := nI_clamp (by omega)
  have vd : vp_in (nI d) 4096 := vp_in_nI (by omega) (by decide)
  intro L hL
  have key : ∀ i, i ≤ dn f d → ∀ x : Int32, ((x = 1 ∧ ∃ k, k < i ∧ gv f (d + 1 + k) = c) ∨ (x = 0 ∧ ¬ ∃ k, k < i ∧ gv f (d + 1 + k) = c)) → L x (nI i) := by
    refine for_up (P := fun i => ∀ x : Int32, ((x = 1 ∧ ∃ k, k < i ∧ gv f (d + 1 + k) = c) ∨ (x = 0 ∧ ¬ ∃ k, k < i ∧ gv f (d + 1 + k) = c)) → L x (nI i)) ?_ (fun i hi ih => ?_)
    · intro x hx
      refine hL _ _ ⟨vd, ?_⟩
      rw [cd, hn.2]
      refine br_t (nI_le (Nat.le_refl _) (by omega)) ?_
      rcases hx with ⟨rfl, w⟩ | ⟨rfl, w⟩
      · exact ⟨Or.inr rfl, ht w⟩
      · exact ⟨Or.inl rfl, hf w⟩
    · intro x hx
      refine hL _ _ ⟨vd, ?_⟩
      have hg := gv_ok hB (d + 1 + i)
      have e1 : nI d + 1 + nI i = nI (d + 1 + i) := by rw [nI_1, nI_add]
      have v1 : vp_in (nI (d + 1 + i)) 4096 := vp_in_nI (by omega) (by decide)
      have e2 : (nI (d + 1 + i)).toNatClampNeg = d + 1 + i := nI_clamp (by omega)
      have e3 : nI (gv f (d + 1 + i)) = nI c ↔ gv f (d + 1 + i) = c := nI_eq (by omega) (by omega)
      rw [cd, hn.2, e1, e2, hg.2, nI_1]
      refine br_f (nI_ge hi (by omega)) (fun J40 h40 J35 h35 => ?_)
      rcases hx with ⟨rfl, k, hk, ek⟩ | ⟨rfl, w⟩
      · exact bs_t (by decide) (h35 (h40 _ (ih 1 (Or.inl ⟨rfl, k, Nat.lt_succ_of_lt hk, ek⟩))))
      · refine bs_f rfl ⟨v1, bs_c (fun z => h40 _ (ih 0 (Or.inr ⟨rfl, ?_⟩))) (fun z => h35 (h40 _ (ih 1 (Or.inl ⟨rfl, i, Nat.lt_succ_self i, e3.mp z⟩))))⟩
        rintro ⟨k, hk, ek⟩
        rcases Nat.lt_or_ge k i with w1 | w1
        · exact w ⟨k, w1, ek⟩
        · have : k = i := Nat.le_antisymm (Nat.le_of_lt_succ hk) w1
          subst this
          exact z (e3.mpr ek)
  exact key 0 (Nat.zero_le _) 0 (Or.inr ⟨rfl, fun ⟨k, hk, _⟩ => absurd hk (Nat.not_lt_zero k)⟩)
theorem ok_separates {d c : Nat} {f sp : Nat → Int32} {K : Int32 → Prop} (hs : SepOK f d sp) (hc : c < 256) (ht : isSep f d c → K 1) (hf : ¬ isSep f d c → K 0) : wp_X1_separates sp (nI c) K := by
  refine br_f (nI_pos (by omega)) (br_f (nI_ge (b := 256) hc (by decide)) ⟨vp_in_nI hc (by decide), ?_⟩)
  rw [nI_clamp (by omega)]
  refine br_c (fun w => hf ((hs c hc).mp w)) (fun w => ht ?_)
  exact Classical.byContradiction (fun z => w ((hs c hc).mpr z))
theorem ok_stores {f : Nat → Int32} {a n : Nat} {v : Int64} {K : Int32 → Prop} (hm : a + n ≤ 4096) (hn : n ≤ 8) (ht : (∀ k, k < n → f (a + k) = oc8 v (8 * (n - 1 - k))) → K 1) (hf : (¬ ∀ k, k < n → f (a + k) = oc8 v (8 * (n - 1 - k))) → K 0) : wp_X4_stores f (nI a) (nI n) v K := by
  intro L hL
  have key : ∀ i, i ≤ n → (∀ k, k < i → f (a + k) = oc8 v (8 * (n - 1 - k))) → L (nI i) := by
    refine for_up (P := fun i => (∀ k, k < i → f (a + k) = oc8 v (8 * (n - 1 - k))) → L (nI i)) ?_ (fun i hi ih => ?_)
    · intro h1
      exact hL _ (br_t (nI_le (Nat.le_refl n) (by omega)) (ht h1))
    · intro h1
      refine hL _ (br_f (nI_ge hi (by omega)) ?_)
      rw [nI_add, sh8 hi, oc8_u _ (by omega), nI_1]
      refine ok_octet (by omega) (br_c (fun w => ih (fun k hk => ?_)) (fun w => hf (fun z => w (z i hi))))
      rcases Nat.lt_or_ge k i with w1 | w1
      · exact h1 k w1
      · have : k = i := Nat.le_antisymm (Nat.le_of_lt_succ hk) w1
        subst this
        exact w
  exact key 0 (Nat.zero_le _) (fun k hk => absurd hk (Nat.not_lt_zero k))
def emB (V : Nat) (f : Nat → Int32) (d a n i : Nat) : Bool := decide (∀ k, k < szV V → gv f (dat f d + i * dsz f d + k) = oct V f a n k)
def entF (V : Nat) (f : Nat → Int32) (d a n : Nat) : Nat → Nat → Nat
  | 0, _ => 0
  | m + 1, i => if emB V f d a n i = true then dat f d + i * dsz f d else entF V f d a n m (i + 1)
theorem entF_s (V : Nat) (f : Nat → Int32) (d a n m i : Nat) : entF V f d a n (m + 1) i = if emB V f d a n i = true then dat f d + i * dsz f d else entF V f d a n m (i + 1) := rfl
/-- the address of the entry of n codes from a on; 0: there is none -/
def ent (V : Nat) (f : Nat → Int32) (d a n : Nat) : Nat := entF V f d a n (dct f d) 0
theorem entF_0 {V : Nat} {f : Nat → Int32} {d a n : Nat} (hz : dsz f d = 0) : ∀ m i, entF V f d a n m i = if m = 0 then 0 else if emB V f d a n 0 = true then dat f d else 0 := by
  intro m
  induction m with
  | zero => intro i; rfl
  | succ m ih =>
    intro i
    have e : emB V f d a n i = emB V f d a n 0 := by unfold emB; rw [hz, Nat.mul_zero, Nat.mul_zero]
    rw [entF_s, ih, e, hz, Nat.mul_zero, if_neg (Nat.succ_ne_zero m)]
    by_cases q : emB V f d a n 0 = true
    · rw [if_pos q, if_pos q]; rfl
    · rw [if_neg q, if_neg q]; split <;> rfl
theorem ent_in {V d i : Nat} {f : Nat → Int32} (h : dOK V f d) (hi : i < dct f d) : dat f d + i * dsz f d + szV V ≤ 4096 := by
  have h2 : i * dsz f d ≤ (dct f d - 1) * dsz f d := Nat.mul_le_mul_right _ (by omega)
  have := h.2
  omega
theorem em_iff {V : Nat} {f : Nat → Int32} {d a n i : Nat} (hB : Byt f) : emB V f d a n i = true ↔ ∀ k, k < szV V → f (dat f d + i * dsz f d + k) = nI (oct V f a n k) := by
  unfold emB
  rw [decide_eq_true_iff]
  refine forall_congr' (fun k => forall_congr' (fun hk => ?_))
  have h1 := gv_ok hB (dat f d + i * dsz f d + k)
  have h2 := oct_lt (V := V) (a := a) (n := n) (k := k) hB
  rw [h1.2]
  exact (nI_eq (by omega) (by omega)).symm
theorem mn_eq {b : Nat} (hb : b < 2 ^ 31) : (if (1 : Int32) < nI b then 1 else nI b) = nI (min b 1) := by
  by_cases q : 1 < b
  · rw [if_pos (show (1 : Int32) < nI b from nI_lt (a := 1) q hb), Nat.min_eq_right (by omega)]; rfl
  · rw [if_neg (show ¬ (1 : Int32) < nI b from nI_nlt (b := b) (a := 1) (by omega) (by decide)), Nat.min_eq_left (by omega)]
theorem ok_entC {V d a n : Nat} {f : Nat → Int32} {K : Int32 → Prop} (hB : Byt f) (h : dOK V f d) (hK : K (nI (ent V f d a n))) : wp_X1_entryOf f (nI (szV V)) (nI (dat f d)) (nI (dsz f d)) (nI (dct f d)) (lN (wrd V f a n)) K := by
  have hszV : szV V = 4 ∨ szV V = 6 := by rcases szV_2 V with q | q <;> omega
  have hc := (dct_lt (d := d) hB).1
  have hz2 : dsz f d < 256 := (gv_ok hB (d + dn f d + 1)).1
  have lp : ∀ N, N ≤ dct f d → K (nI (entF V f d a n N 0)) → ∀ {L : Int32 → Prop}, (∀ x : Int32, (((nI N ≤ x) → K 0) ∧ ((¬ nI N ≤ x) → (∀ v_1 : Int32, v_1 = (nI (dat f d) + (x * nI (dsz f d))) → wp_X4_stores f v_1 (nI (szV V)) (lN (wrd V f a n)) (fun r_1 => ((r_1 = 0) → L (x + 1)) ∧ ((¬ r_1 = 0) → K v_1))))) → L x) → L 0 := by
    intro N hN hK2 L hL
    have key : ∀ m i, i + m = N → K (nI (entF V f d a n m i)) → L (nI i) := by
      intro m
      induction m with
      | zero =>
        intro i hi hk
        exact hL _ (br_t (nI_le (by omega) (by omega)) hk)
      | succ m ih =>
        intro i hi hk
        have hin := ent_in h (show i < dct f d by omega)
        refine hL _ (br_f (nI_ge (by omega) (by omega)) (nm_r (e' := nI (dat f d + i * dsz f d)) (by rw [pk_mul, nI_add]) ?_))
        rw [nI_1]
        rw [entF_s] at hk
        have hoc : (∀ k, k < szV V → f (dat f d + i * dsz f d + k) = oc8 (lN (wrd V f a n)) (8 * (szV V - 1 - k))) ↔ emB V f d a n i = true := by
          rw [em_iff hB]
          exact forall_congr' (fun k => forall_congr' (fun hk => by rw [oct_oc8 hB hk]))
        refine ok_stores (by omega) (by omega) (fun w => br_f (by decide) ?_) (fun w => br_t rfl (ih (i + 1) (by omega) ?_))
        · rw [if_pos (hoc.mp w)] at hk
          exact hk
        · rw [if_neg (fun z => w (hoc.mpr z))] at hk
          exact hk
    exact key N 0 (Nat.zero_add N) hK2
  intro J22 h22
  by_cases q : dsz f d = 0
  · refine bs_f (by rw [q]; rfl) ?_
    rw [mn_eq (by omega)]
    refine h22 _ (fun L hL => lp (min (dct f d) 1) (by omega) ?_ hL)
    unfold ent at hK
    rw [entF_0 q] at hK ⊢
    by_cases w : dct f d = 0
    · rw [w] at hK ⊢; exact hK
    · rw [if_neg w] at hK
      rw [if_neg (by omega)]
      exact hK
  · refine bs_t (fun w => q ((nI_eq (b := 0) (by omega) (by decide)).mp w)) (h22 _ (fun L hL => lp (dct f d) (Nat.le_refl _) hK hL))
