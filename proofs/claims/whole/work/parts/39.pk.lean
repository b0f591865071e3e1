-- PURE 20: ending keys, lines that come again
/-- whether the table from i on, m octets to the end of the memory, has a key -/
def tH (f : Nat → Int32) (a : Int32) : Nat → Nat → Int32
  | 0, _ => 0
  | m + 1, i => if f i = 0 then 0 else if f i = a ∨ f i = 255 then 1 else tH f a m (i + 1)
theorem tH_s (f : Nat → Int32) (a : Int32) (m i : Nat) : tH f a (m + 1) i = if f i = 0 then 0 else if f i = a ∨ f i = 255 then 1 else tH f a m (i + 1) := rfl
theorem tH_01 (f : Nat → Int32) (a : Int32) : ∀ m i, tH f a m i = 0 ∨ tH f a m i = 1 := by
  intro m
  induction m with
  | zero => intro i; exact Or.inl rfl
  | succ m ih =>
    intro i
    rw [tH_s]
    by_cases q : f i = 0
    · rw [if_pos q]; exact Or.inl rfl
    · rw [if_neg q]
      by_cases q2 : f i = a ∨ f i = 255
      · rw [if_pos q2]; exact Or.inr rfl
      · rw [if_neg q2]; exact ih _
theorem ok_tableHas {tb : Nat} {f : Nat → Int32} {a : Int32} {K : Int32 → Prop} (htb : tb ≤ 4096) (h : K (tH f a (4096 - tb) tb)) : wp_X9_tableHas (nI tb) f a K := by
  intro L hL
  have key : ∀ m i, i + m = 4096 → tH f a m i = tH f a (4096 - tb) tb → L (nI i) := by
    intro m
    induction m with
    | zero =>
      intro i hi he
      rw [← he] at h
      exact hL _ (br_t (nI_le (a := 4096) (by omega) (by omega)) h)
    | succ m ih =>
      intro i hi he
      rw [tH_s] at he
      refine hL _ (br_f (nI_ge (b := 4096) (by omega) (by decide)) (ok_octet (by omega) ?_))
      rw [nI_1]
      by_cases q : f i = 0
      · rw [if_pos q] at he
        rw [← he] at h
        exact bs_f q h
      · rw [if_neg q] at he
        refine bs_t q (br_c (fun w => ?_) (fun w => bs_c (fun w2 => ih (i + 1) (by omega) ?_) (fun w2 => ?_)))
        · rw [if_pos (Or.inl w)] at he
          rw [← he] at h
          exact h
        · rw [if_neg (fun z => z.elim w w2)] at he
          exact he
        · rw [if_pos (Or.inr w2)] at he
          rw [← he] at h
          exact h
  exact key (4096 - tb) tb (by omega) rfl
def isE (V tb : Nat) (f : Nat → Int32) (a : Int32) : Int32 := if a = 13 then 1 else if ((129 ≤ a.toInt ∧ a.toInt ≤ 154) ∨ (252 ≤ a.toInt ∧ a.toInt ≤ 254)) ∧ 5 ≤ V ∧ 0 < tb then tH f a (4096 - tb) tb else 0
theorem isE_0 {V tb : Nat} {f : Nat → Int32} {a : Int32} (h : ¬ a = 13) (h2 : ¬ (((129 ≤ a.toInt ∧ a.toInt ≤ 154) ∨ (252 ≤ a.toInt ∧ a.toInt ≤ 254)) ∧ 5 ≤ V ∧ 0 < tb)) : isE V tb f a = 0 := by
  unfold isE
  rw [if_neg h, if_neg h2]
theorem isE_t {V tb : Nat} {f : Nat → Int32} {a : Int32} (h : ¬ a = 13) (h2 : ((129 ≤ a.toInt ∧ a.toInt ≤ 154) ∨ (252 ≤ a.toInt ∧ a.toInt ≤ 254)) ∧ 5 ≤ V ∧ 0 < tb) : isE V tb f a = tH f a (4096 - tb) tb := by
  unfold isE
  rw [if_neg h, if_pos h2]
theorem isE_01 (V tb : Nat) (f : Nat → Int32) (a : Int32) : isE V tb f a = 0 ∨ isE V tb f a = 1 := by
  by_cases h : a = 13
  · exact Or.inr (if_pos h)
  · by_cases h2 : ((129 ≤ a.toInt ∧ a.toInt ≤ 154) ∨ (252 ≤ a.toInt ∧ a.toInt ≤ 254)) ∧ 5 ≤ V ∧ 0 < tb
    · rw [isE_t h h2]; exact tH_01 _ _ _ _
    · exact Or.inl (isE_0 h h2)
theorem ok_isEndC {V tb : Nat} {f : Nat → Int32} {a : Int32} {K : Int32 → Prop} (hV : V < 9) (htb : tb ≤ 4000) (h : K (isE V tb f a)) : wp_X9_isEnding (nI V) (nI tb) f a K := by
  have z1 : (129 : Int32).toInt = 129 := rfl
  have z2 : (154 : Int32).toInt = 154 := rfl
  have z3 : (252 : Int32).toInt = 252 := rfl
  have z4 : (254 : Int32).toInt = 254 := rfl
  have tb0 : nI tb = 0 ↔ tb = 0 := nI_eq (b := 0) (by omega) (by decide)
  by_cases h13 : a = 13
  · rw [show isE V tb f a = 1 from if_pos h13] at h
    exact bs_f h13 h
  · refine bs_t h13 ?_
    intro J41 h41
    have no : (¬ ((129 ≤ a.toInt ∧ a.toInt ≤ 154) ∨ (252 ≤ a.toInt ∧ a.toInt ≤ 254))) → J41 0 := fun w => h41 _ (br_t rfl (by rw [isE_0 h13 (fun z => w z.1)] at h; exact h))
    have ye : ((129 ≤ a.toInt ∧ a.toInt ≤ 154) ∨ (252 ≤ a.toInt ∧ a.toInt ≤ 254)) → J41 1 := fun w => h41 _ (br_f (by decide) (ok_counts hV (by
      by_cases q : V ≤ 4
      · rw [show cntV V = 0 from if_pos q]
        rw [isE_0 h13 (fun z => by omega)] at h
        exact br_t rfl h
      · rw [show cntV V = 1 from if_neg q]
        refine br_f (by decide) (br_c (fun w2 => ?_) (fun w2 => ok_tableHas (by omega) ?_))
        · rw [isE_0 h13 (fun z => by have := tb0.mp w2; omega)] at h
          exact h
        · rw [isE_t h13 ⟨w, by omega, by rcases Nat.eq_zero_or_pos tb with y | y; exact absurd (tb0.mpr y) w2; exact y⟩] at h
          rcases tH_01 f a (4096 - tb) tb with y | y
          · rw [y] at h ⊢
            exact br_t rfl h
          · rw [y] at h ⊢
            exact br_f (by decide) h)))
    clear h h41
    intro J36 h36 J22 h22
    have y3 := fun w => h36 (ye w)
    have n2 : (a.toInt < 129 ∨ 154 < a.toInt) → J22 := fun w => h22 (fun J40 h40 => by
      have n3 := fun w => h40 (no w)
      clear h40
      refine br_c (fun v => n3 ?_) (fun v => br_c (fun v2 => n3 ?_) (fun v2 => y3 ?_))
      · rw [i_lt] at v; clear n3 y3 ye no h36 h22; omega
      · rw [i_lt] at v2; clear n3 y3 ye no h36 h22; omega
      · rw [i_lt] at v v2; clear n3 y3 ye no h36 h22; omega)
    refine br_c (fun v => n2 ?_) (fun v => br_c (fun v2 => y3 ?_) (fun v2 => n2 ?_))
    · rw [i_lt] at v; clear n2 y3 ye no h36 h22; omega
    · rw [i_lt] at v; rw [i_le] at v2; clear n2 y3 ye no h36 h22; omega
    · rw [i_le] at v2; clear n2 y3 ye no h36 h22; omega
theorem ok_isEndM {V tb : Nat} {f : Nat → Int32} {a : Int32} {K : Int32 → Prop} (hV : V < 9) (htb : tb ≤ 4000) (h : K (isE V tb f a)) : wp_X10_isEnding (nI V) f (nI tb) a K := by
  have tb0 : nI tb = 0 ↔ tb = 0 := nI_eq (b := 0) (by omega) (by decide)
  have v5 : nI V < 5 ↔ V < 5 := nI_ltI (b := 5) (by omega) (by decide)
  by_cases h13 : a = 13
  · rw [show isE V tb f a = 1 from if_pos h13] at h
    exact bs_f h13 h
  · refine bs_t h13 (br_c (fun w => ?_) (fun w => br_c (fun w2 => ?_) (fun w2 => ?_)))
    · rw [isE_0 h13 (fun z => by have := v5.mp w; omega)] at h
      exact h
    · rw [isE_0 h13 (fun z => by have := tb0.mp w2; omega)] at h
      exact h
    · have hV5 : 5 ≤ V := by
        rcases Nat.lt_or_ge V 5 with y | y
        · exact absurd (v5.mpr y) w
        · exact y
      have htb0 : 0 < tb := by
        rcases Nat.eq_zero_or_pos tb with y | y
        · exact absurd (tb0.mpr y) w2
        · exact y
      have lp : ((129 ≤ a.toInt ∧ a.toInt ≤ 154) ∨ (252 ≤ a.toInt ∧ a.toInt ≤ 254)) → ∀ L58 : Int32 → Int32 → Prop, (∀ (x2_1 : Int32) (x3_1 : Int32), (((4096 ≤ x3_1) → ((x2_1 = 0 ∨ x2_1 = 1) ∧ (K x2_1))) ∧ ((¬ 4096 ≤ x3_1) → (vp_in x3_1 4096 ∧ ((((f (Int32.toNatClampNeg x3_1)) = 0) → ((x2_1 = 0 ∨ x2_1 = 1) ∧ (K x2_1))) ∧ ((¬ (f (Int32.toNatClampNeg x3_1)) = 0) → (∀ J105 : Int32 → Prop, (∀ (y_1 : Int32), (L58 y_1 (x3_1 + 1)) → J105 y_1) → (∀ J100 : Prop, ((J105 1) → J100) → (((¬ x2_1 = 0) → (J100)) ∧ ((x2_1 = 0) → (vp_in x3_1 4096 ∧ ((((f (Int32.toNatClampNeg x3_1)) = a) → (J100)) ∧ ((¬ (f (Int32.toNatClampNeg x3_1)) = a) → (vp_in x3_1 4096 ∧ (((¬ (f (Int32.toNatClampNeg x3_1)) = 255) → (J105 0)) ∧ (((f (Int32.toNatClampNeg x3_1)) = 255) → (J100)))))))))))))))) → L58 x2_1 x3_1) → L58 0 (nI tb) := by
        intro wr L hL
        rw [isE_t h13 ⟨wr, hV5, htb0⟩] at h
        have key1 : K 1 → ∀ m i, i + m = 4096 → L 1 (nI i) := by
          intro k1 m
          induction m with
          | zero => intro i hi; exact hL _ _ (br_t (nI_le (a := 4096) (by omega) (by omega)) ⟨Or.inr rfl, k1⟩)
          | succ m ih =>
            intro i hi
            have hn := ih (i + 1) (by omega)
            refine hL _ _ (br_f (nI_ge (b := 4096) (by omega) (by decide)) ⟨vp_in_nI (by omega) (by decide), br_c (fun _ => ⟨Or.inr rfl, k1⟩) (fun _ J105 h105 J100 h100 => bs_t (by decide) (h100 (h105 _ ?_)))⟩)
            rw [nI_1]
            exact hn
        have key : ∀ m i, i + m = 4096 → tH f a m i = tH f a (4096 - tb) tb → L 0 (nI i) := by
          intro m
          induction m with
          | zero =>
            intro i hi he
            rw [← he] at h
            exact hL _ _ (br_t (nI_le (a := 4096) (by omega) (by omega)) ⟨Or.inl rfl, h⟩)
          | succ m ih =>
            intro i hi he
            rw [tH_s] at he
            have hn := ih (i + 1) (by omega)
            have hn1 := fun k1 => key1 k1 m (i + 1) (by omega)
            have vi : vp_in (nI i) 4096 := vp_in_nI (by omega) (by decide)
            have ni : ¬ (4096 : Int32) ≤ nI i := nI_ge (b := 4096) (by omega) (by decide)
            have ci : (nI i).toNatClampNeg = i := nI_clamp (by omega)
            refine hL _ _ (br_f ni ⟨vi, ?_⟩)
            rw [ci, nI_1]
            by_cases q : f i = 0
            · rw [if_pos q] at he
              rw [← he] at h
              exact br_t q ⟨Or.inl rfl, h⟩
            · rw [if_neg q] at he
              refine br_f q (fun J105 h105 J100 h100 => bs_f rfl ⟨vi, br_c (fun v => h100 (h105 _ (hn1 ?_))) (fun v => ⟨vi, bs_c (fun v2 => h105 _ (hn ?_)) (fun v2 => h100 (h105 _ (hn1 ?_)))⟩)⟩)
              · rw [if_pos (Or.inl v)] at he
                rw [← he] at h
                exact h
              · rw [if_neg (fun z => z.elim v v2)] at he
                exact he
              · rw [if_pos (Or.inr v2)] at he
                rw [← he] at h
                exact h
        exact key (4096 - tb) tb (by omega) rfl
      have no : (¬ ((129 ≤ a.toInt ∧ a.toInt ≤ 154) ∨ (252 ≤ a.toInt ∧ a.toInt ≤ 254))) → K 0 := fun v => by
        rw [isE_0 h13 (fun z => v z.1)] at h
        exact h
      clear h
      refine ok_inI (A := 129) (B := 154) rfl rfl (fun v1 v2 J51 h51 => bs_t (by decide) (h51 (lp (Or.inl ⟨v1, v2⟩)))) (fun v J51 h51 => bs_f rfl (ok_inI (A := 252) (B := 254) rfl rfl (fun v1 v2 => bs_t (by decide) (h51 (lp (Or.inr ⟨v1, v2⟩)))) (fun v1 => bs_f rfl (no ?_))))
      clear h51 lp no
      omega
theorem ok_showC {lim k la j len : Nat} {cn sh : Int32} {cd ll lcd : Nat → Int32} {K : Int32 → Int32 → (Nat → Int32) → Prop} (hlim : lim ≤ 255) (hk : k ≤ 8) (hla : la < 8) (hj : j < k) (hl : ll ((la + 8 - j) % 8) = nI len) (hlen : len ≤ 255) (h : K (nI (min len lim)) (nI j) (blk cd 0 (fun i => lcd ((la + 8 - j) % 8 * 255 + i)) (min len lim))) : wp_X9_showLine (nI lim) cn sh cd (nI k) (nI la) ll lcd (nI j) K := by
  unfold wp_X9_showLine wp_X7_clear
  refine ok_len3 hk hla hj ?_
  rw [hl]
  intro L hL
  have key : ∀ i, i ≤ len → L (nI i) (nI (min i lim)) (blk cd 0 (fun i => lcd ((la + 8 - j) % 8 * 255 + i)) (min i lim)) := by
    refine for_up (P := fun i => L (nI i) (nI (min i lim)) (blk cd 0 (fun i => lcd ((la + 8 - j) % 8 * 255 + i)) (min i lim))) ?_ (fun i hi ih => ?_)
    · exact hL _ _ _ (br_t (nI_le (Nat.le_refl _) (by omega)) h)
    · refine hL _ _ _ (br_f (nI_ge hi (by omega)) (ok_code3 hk hla hj hl hlen hi ?_))
      rw [nI_1]
      rcases Nat.lt_or_ge i lim with q | q
      · rw [Nat.min_eq_left (by omega)] at ih ⊢
        refine ok_add7 q hlim ?_
        have e := blk_s cd 0 (fun i => lcd ((la + 8 - j) % 8 * 255 + i)) i
        rw [Nat.zero_add] at e
        rw [← e] at ih
        exact ih
      · rw [Nat.min_eq_right (by omega)] at ih ⊢
        exact ok_add7_full (Nat.le_refl _) hlim ih
  have := key 0 (Nat.zero_le _)
  rw [Nat.min_eq_left (Nat.zero_le _), blk_0, nI_0] at this
  exact this
theorem ok_showC_out {k la : Nat} {lim cn sh x : Int32} {cd ll lcd : Nat → Int32} {K : Int32 → Int32 → (Nat → Int32) → Prop} (hk : k ≤ 8) (hx : x.toInt < 0 ∨ (k : Int) ≤ x.toInt) (h : K 0 x cd) : wp_X9_showLine lim cn sh cd (nI k) (nI la) ll lcd x K := by
  unfold wp_X9_showLine wp_X7_clear
  refine ok_len3_out hk hx ?_
  intro L hL
  exact hL _ _ _ (br_t (by decide) h)
theorem ok_showM {lim x len : Nat} {cn sh : Int32} {cd ls ln : Nat → Int32} {K : (Nat → Int32) → Int32 → Int32 → Prop} (hlim : lim ≤ 255) (hx : x < 8) (hl : ls x = nI len) (hlen : len ≤ 255) (h : K (blk cd 0 (fun i => ln (256 * x + i)) (min len lim)) (nI (min len lim)) (nI x)) : wp_X10_show (nI lim) cd cn sh ls ln (nI x) K := by
  have vx : vp_in (nI x) 8 := vp_in_nI hx (by decide)
  have cx : (nI x).toNatClampNeg = x := nI_clamp (by omega)
  refine ⟨vx, ?_⟩
  rw [cx, hl]
  intro J32 h32
  have hj : J32 (nI (min len lim)) := h32 _ (fun L hL => by
    have key : ∀ i, i ≤ min len lim → L (nI i) (blk cd 0 (fun i => ln (256 * x + i)) i) := by
      refine for_up (P := fun i => L (nI i) (blk cd 0 (fun i => ln (256 * x + i)) i)) ?_ (fun i hi ih => ?_)
      · exact hL _ _ (br_t (nI_le (Nat.le_refl _) (by omega)) h)
      · refine hL _ _ (br_f (nI_ge hi (by omega)) ?_)
        have e := blk_s cd 0 (fun i => ln (256 * x + i)) i
        rw [Nat.zero_add] at e
        rw [show (256 : Int32) * nI x = nI (256 * x) from pk_mul 256 x, nI_add, nI_clamp (by omega), nI_clamp (by omega), nI_1, e]
        exact ⟨vp_in_nI (by omega) (by decide), vp_in_nI (by omega) (by decide), ih⟩
    have := key 0 (Nat.zero_le _)
    rw [blk_0, nI_0] at this
    exact this)
  clear h32 h
  refine br_c (fun w => ?_) (fun w => ⟨vx, ?_⟩)
  · have := (nI_leI (by omega) (by omega)).mp w
    rw [Nat.min_eq_right this] at hj
    exact hj
  · have : ¬ lim ≤ len := fun y => w (nI_le y (by omega))
    rw [Nat.min_eq_left (by omega)] at hj
    exact hj
