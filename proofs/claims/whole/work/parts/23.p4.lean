-- PURE 4: packing: the row, the letters
def upV (V : Nat) : Nat := if V ≤ 2 then 2 else 4
def rwV (V : Nat) : Nat := if V ≤ 1 then 0 else 1
def nV (V : Nat) : Nat := if V ≤ 3 then 6 else 9
def szV (V : Nat) : Nat := if V ≤ 3 then 4 else 6
theorem rwV_lt (V : Nat) : rwV V < 2 := by unfold rwV; split <;> decide
def rowS (r : Nat) : List Nat := if r = 0 then [48, 49, 50, 51, 52, 53, 54, 55, 56, 57, 46, 44, 33, 63, 95, 35, 39, 34, 47, 92, 60, 45, 58, 40, 41] else [13, 48, 49, 50, 51, 52, 53, 54, 55, 56, 57, 46, 44, 33, 63, 95, 35, 39, 34, 47, 92, 45, 58, 40, 41]
def gv (f : Nat → Int32) (j : Nat) : Nat := (f j).toNatClampNeg
theorem gv_ok {f : Nat → Int32} (h : Byt f) (j : Nat) : gv f j < 256 ∧ f j = nI (gv f j) := by
  obtain ⟨n, hn, e⟩ := h j
  have e2 : (f j).toNatClampNeg = n := by rw [e]; exact nI_clamp (by omega)
  show (f j).toNatClampNeg < 256 ∧ f j = nI (f j).toNatClampNeg
  rw [e2]
  exact ⟨hn, e⟩
/-- the place in the row from k on, as the calls tell it: -1 if there is none -/
def plF (r c : Nat) : Nat → Nat → Int32
  | 0, _ => -1
  | m + 1, k => if (rowS r).getD k 0 = c then nI k else plF r c m (k + 1)
theorem plF_s {r c : Nat} (m k : Nat) : plF r c (m + 1) k = if (rowS r).getD k 0 = c then nI k else plF r c m (k + 1) := rfl
/-- the place as a number, 25 if there is none -/
def plc (r c : Nat) : Nat := (rowS r).findIdx (· == c)
theorem plc_ok : ∀ r, r < 2 → ∀ c, c < 256 → plF r c 25 0 = if plc r c < 25 then nI (plc r c) else -1 := by decide +kernel
theorem byt_row : ∀ r, r < 2 → ∀ k, k < 25 → (bytS.getD r []).getD k 0 = nI ((rowS r).getD k 0) := by decide +kernel
theorem i2b_eq : ∀ a, a < 256 → ∀ b, b < 128 → (nI b = (Int32.toInt8 (nI a)).toInt32 ↔ b = a) := by decide +kernel
theorem rowS_128 : ∀ r, r < 2 → ∀ k, k < 25 → (rowS r).getD k 0 < 128 := by decide +kernel
theorem lenS_25 : ∀ r, r < 2 → lenS.getD r 0 = 25 := by decide +kernel
theorem c2_eq : ∀ a, a < 256 → ((Int32.toUInt32 (nI a)) % 65536).toInt32 = nI a := by decide +kernel
theorem ok_indexOf {r c : Nat} {K : Int32 → Prop} (hr : r < 2) (hc : c < 256) (h : K (plF r c 25 0)) : wp_J0_indexOf_0f7a4 r (nI c) K := by
  refine br_f (by decide) ?_
  show wp_J1_indexOf_4cfef r (nI c) 0 (nI (lenS.getD r 0) >>> ((0 : Int32) &&& 31)) _
  rw [sb_shr0, lenS_25 r hr]
  refine br_f (nI_pos (by omega)) (br_f (nI_nlt (b := c) (a := 255) (by omega) (by decide)) (bs_t (by decide) (nm_r (e' := (0 : Int32)) (by decide) (nm_r (e' := nI 25) ?_ (br_t (by decide) ?_)))))
  · rw [lenS_25 r hr]
    exact if_neg (by decide)
  intro v ev L hL
  have key : ∀ m k, k + m = 25 → K (plF r c m k) → L (nI k) := by
    intro m
    induction m with
    | zero =>
      intro k hk hK
      exact hL _ (br_t (nI_le (a := 25) (by omega) (by omega)) hK)
    | succ m ih =>
      intro k hk hK
      refine hL _ (br_f (nI_ge (b := 25) (by omega) (by decide)) ⟨by rw [lenS_25 r hr]; exact vp_in_nI (by omega) (by decide), ?_⟩)
      rw [nI_clamp (by omega), byt_row r hr k (by omega), ev, i2b_eq c hc _ (rowS_128 r hr k (by omega)), nI_1]
      rw [plF_s] at hK
      exact bs_c (fun q => ih (k + 1) (by omega) (by rw [if_neg q] at hK; exact hK)) (fun q => by rw [if_pos q] at hK; exact hK)
  exact key 25 0 rfl h
set_option maxRecDepth 4000 in
theorem ok_rowAt {V k : Nat} {K : Int32 → Prop} (hV : V < 9) (hk : k < 25) (h : K (nI ((rowS (rwV V)).getD k 0))) : wp_X10_rowAt (nI V) (nI k) K := by
  by_cases q : V ≤ 1
  · have hv : nI V ≤ 1 := nI_le (b := 1) q (by decide)
    have hw : rwV V = 0 := if_pos q
    rw [hw] at h
    intro J15 h15
    refine br_t hv (h15 ?_)
    intro J30 h30
    refine br_t hv (h30 _ ?_)
    by_cases w : k < 10
    · refine br_f (nI_ge (b := 10) w (by decide)) ?_
      rw [show (48 : Int32) + nI k = nI (48 + k) from nI_add 48 _]
      have e : ∀ k, k < 25 → k < 10 → 48 + k = (rowS 0).getD k 0 := by decide +kernel
      rw [e k hk w]
      exact h
    · refine br_t (nI_le (a := 10) (by omega) (by omega)) ?_
      obtain ⟨y, hy⟩ : ∃ y, y = k := ⟨_, rfl⟩
      rw [← hy]
      have hky : k = y := by omega
      have hy2 : 10 ≤ y ∧ y < 25 := by omega
      rw [hky] at h
      clear w hk hy hky
      obtain ⟨hy3, hy4⟩ := hy2
      match y, hy3, hy4 with
      | 10, _, _ => exact br_t rfl h
      | 11, _, _ => exact br_f (by decide) (br_t rfl h)
      | 12, _, _ => exact br_f (by decide) (br_f (by decide) (br_t rfl h))
      | 13, _, _ => exact br_f (by decide) (br_f (by decide) (br_f (by decide) (br_t rfl h)))
      | 14, _, _ => exact br_f (by decide) (br_f (by decide) (br_f (by decide) (br_f (by decide) (br_t rfl h))))
      | 15, _, _ => exact br_f (by decide) (br_f (by decide) (br_f (by decide) (br_f (by decide) (br_f (by decide) (br_t rfl h)))))
      | 16, _, _ => exact br_f (by decide) (br_f (by decide) (br_f (by decide) (br_f (by decide) (br_f (by decide) (br_f (by decide) (br_t rfl h))))))
      | 17, _, _ => exact br_f (by decide) (br_f (by decide) (br_f (by decide) (br_f (by decide) (br_f (by decide) (br_f (by decide) (br_f (by decide) (br_t rfl h)))))))
      | 18, _, _ => exact br_f (by decide) (br_f (by decide) (br_f (by decide) (br_f (by decide) (br_f (by decide) (br_f (by decide) (br_f (by decide) (br_f (by decide) (br_t rfl h))))))))
      | 19, _, _ => exact br_f (by decide) (br_f (by decide) (br_f (by decide) (br_f (by decide) (br_f (by decide) (br_f (by decide) (br_f (by decide) (br_f (by decide) (br_f (by decide) (br_t rfl h)))))))))
      | 20, _, _ => exact br_f (by decide) (br_f (by decide) (br_f (by decide) (br_f (by decide) (br_f (by decide) (br_f (by decide) (br_f (by decide) (br_f (by decide) (br_f (by decide) (br_f (by decide) (fun J141 h141 => br_t hv (h141 _ (bs_f rfl h))))))))))))
      | 21, _, _ => exact br_f (by decide) (br_f (by decide) (br_f (by decide) (br_f (by decide) (br_f (by decide) (br_f (by decide) (br_f (by decide) (br_f (by decide) (br_f (by decide) (br_f (by decide) (fun J141 h141 => br_t hv (h141 _ (bs_t (by decide) (bs_f rfl h)))))))))))))
      | 22, _, _ => exact br_f (by decide) (br_f (by decide) (br_f (by decide) (br_f (by decide) (br_f (by decide) (br_f (by decide) (br_f (by decide) (br_f (by decide) (br_f (by decide) (br_f (by decide) (fun J141 h141 => br_t hv (h141 _ (bs_t (by decide) (bs_t (by decide) (bs_f rfl h))))))))))))))
      | 23, _, _ => exact br_f (by decide) (br_f (by decide) (br_f (by decide) (br_f (by decide) (br_f (by decide) (br_f (by decide) (br_f (by decide) (br_f (by decide) (br_f (by decide) (br_f (by decide) (fun J141 h141 => br_t hv (h141 _ (bs_t (by decide) (bs_t (by decide) (bs_t (by decide) (bs_f rfl h)))))))))))))))
      | 24, _, _ => exact br_f (by decide) (br_f (by decide) (br_f (by decide) (br_f (by decide) (br_f (by decide) (br_f (by decide) (br_f (by decide) (br_f (by decide) (br_f (by decide) (br_f (by decide) (fun J141 h141 => br_t hv (h141 _ (bs_t (by decide) (bs_t (by decide) (bs_t (by decide) (bs_t (by decide) h)))))))))))))))
      | y + 25, _, w => exact absurd w (by omega)
  · have hv : ¬ nI V ≤ 1 := fun w => q ((nI_leI (b := 1) (by omega) (by decide)).mp w)
    have hw : rwV V = 1 := if_neg q
    rw [hw] at h
    intro J15 h15
    by_cases z : k = 0
    · subst z; exact br_f hv (bs_f rfl h)
    refine br_f hv (bs_t (fun w => z ((nI_eq (b := 0) (by omega) (by decide)).mp w)) (h15 ?_))
    intro J30 h30
    rw [show nI k - 1 = nI (k - 1) from pk_sub (b := 1) (by omega)]
    refine br_f hv (h30 _ ?_)
    by_cases w : (k - 1) < 10
    · refine br_f (nI_ge (b := 10) w (by decide)) ?_
      rw [show (48 : Int32) + nI (k - 1) = nI (48 + (k - 1)) from nI_add 48 _]
      have e : ∀ k, k < 25 → k ≠ 0 → (k - 1) < 10 → 48 + (k - 1) = (rowS 1).getD k 0 := by decide +kernel
      rw [e k hk z w]
      exact h
    · refine br_t (nI_le (a := 10) (by omega) (by omega)) ?_
      obtain ⟨y, hy⟩ : ∃ y, y = (k - 1) := ⟨_, rfl⟩
      rw [← hy]
      have hky : k = y + 1 := by omega
      have hy2 : 10 ≤ y ∧ y < 24 := by omega
      rw [hky] at h
      clear w hk hy hky z
      obtain ⟨hy3, hy4⟩ := hy2
      match y, hy3, hy4 with
      | 10, _, _ => exact br_t rfl h
      | 11, _, _ => exact br_f (by decide) (br_t rfl h)
      | 12, _, _ => exact br_f (by decide) (br_f (by decide) (br_t rfl h))
      | 13, _, _ => exact br_f (by decide) (br_f (by decide) (br_f (by decide) (br_t rfl h)))
      | 14, _, _ => exact br_f (by decide) (br_f (by decide) (br_f (by decide) (br_f (by decide) (br_t rfl h))))
      | 15, _, _ => exact br_f (by decide) (br_f (by decide) (br_f (by decide) (br_f (by decide) (br_f (by decide) (br_t rfl h)))))
      | 16, _, _ => exact br_f (by decide) (br_f (by decide) (br_f (by decide) (br_f (by decide) (br_f (by decide) (br_f (by decide) (br_t rfl h))))))
      | 17, _, _ => exact br_f (by decide) (br_f (by decide) (br_f (by decide) (br_f (by decide) (br_f (by decide) (br_f (by decide) (br_f (by decide) (br_t rfl h)))))))
      | 18, _, _ => exact br_f (by decide) (br_f (by decide) (br_f (by decide) (br_f (by decide) (br_f (by decide) (br_f (by decide) (br_f (by decide) (br_f (by decide) (br_t rfl h))))))))
      | 19, _, _ => exact br_f (by decide) (br_f (by decide) (br_f (by decide) (br_f (by decide) (br_f (by decide) (br_f (by decide) (br_f (by decide) (br_f (by decide) (br_f (by decide) (br_t rfl h)))))))))
      | 20, _, _ => exact br_f (by decide) (br_f (by decide) (br_f (by decide) (br_f (by decide) (br_f (by decide) (br_f (by decide) (br_f (by decide) (br_f (by decide) (br_f (by decide) (br_f (by decide) (fun J141 h141 => br_f hv (h141 _ (bs_t (by decide) (bs_f rfl h)))))))))))))
      | 21, _, _ => exact br_f (by decide) (br_f (by decide) (br_f (by decide) (br_f (by decide) (br_f (by decide) (br_f (by decide) (br_f (by decide) (br_f (by decide) (br_f (by decide) (br_f (by decide) (fun J141 h141 => br_f hv (h141 _ (bs_t (by decide) (bs_t (by decide) (bs_f rfl h))))))))))))))
      | 22, _, _ => exact br_f (by decide) (br_f (by decide) (br_f (by decide) (br_f (by decide) (br_f (by decide) (br_f (by decide) (br_f (by decide) (br_f (by decide) (br_f (by decide) (br_f (by decide) (fun J141 h141 => br_f hv (h141 _ (bs_t (by decide) (bs_t (by decide) (bs_t (by decide) (bs_f rfl h)))))))))))))))
      | 23, _, _ => exact br_f (by decide) (br_f (by decide) (br_f (by decide) (br_f (by decide) (br_f (by decide) (br_f (by decide) (br_f (by decide) (br_f (by decide) (br_f (by decide) (br_f (by decide) (fun J141 h141 => br_f hv (h141 _ (bs_t (by decide) (bs_t (by decide) (bs_t (by decide) (bs_t (by decide) h)))))))))))))))
      | y + 24, _, w => exact absurd w (by omega)
/-- the letters of a code -/
def lets (V c : Nat) : List Nat := if c = 32 then [0] else if 97 ≤ c ∧ c ≤ 122 then [c - 97 + 6] else if 65 ≤ c ∧ c ≤ 90 then [upV V, c - 65 + 6] else if plc (rwV V) c < 25 then [upV V + 1, plc (rwV V) c + 7] else [upV V + 1, 6, c / 32, c % 32]
/-- a row of letters that holds at most so many -/
def Snk (cap : Nat) (ls : List Nat) (ar : Nat → Int32) : Prop := ∀ j, j < ls.length → j < cap → ar j = nI (ls.getD j 0)
theorem Snk.nil {cap : Nat} {ar : Nat → Int32} : Snk cap [] ar := fun j h => absurd h (Nat.not_lt_zero j)
theorem getD_app_l {l m : List Nat} {j d : Nat} (h : j < l.length) : (l ++ m).getD j d = l.getD j d := by
  rw [List.getD_eq_getElem?_getD, List.getD_eq_getElem?_getD, List.getElem?_append_left h]
theorem getD_app_e {l m : List Nat} {j d : Nat} (h : l.length ≤ j) : (l ++ m).getD j d = m.getD (j - l.length) d := by
  rw [List.getD_eq_getElem?_getD, List.getD_eq_getElem?_getD, List.getElem?_append_right h]
theorem Snk.full {cap : Nat} {ls m : List Nat} {ar : Nat → Int32} (h : Snk cap ls ar) (hf : cap ≤ ls.length) : Snk cap (ls ++ m) ar := fun j _ hj => by
  rw [getD_app_l (by omega)]
  exact h j (by omega) hj
theorem Snk.add {cap x : Nat} {ls : List Nat} {ar : Nat → Int32} (h : Snk cap ls ar) : Snk cap (ls ++ [x]) (upd ar ls.length (nI x)) := fun j h1 hj => by
  rw [List.length_append] at h1
  by_cases e : j = ls.length
  · subst e
    rw [pk_us, getD_app_e (Nat.le_refl _), Nat.sub_self]
    rfl
  · have : j < ls.length := by simp at h1; omega
    rw [pk_un e, getD_app_l this]
    exact h j this hj
theorem ok_addLetter {cap x : Nat} {ls : List Nat} {ar : Nat → Int32} {K : (Nat → Int32) → Int32 → Prop} (hc : cap < 2 ^ 20) (h : Snk cap ls ar) (hK : ∀ ar', Snk cap (ls ++ [x]) ar' → K ar' (nI (min (ls ++ [x]).length cap))) : wp_X5_addLetter ar (nI (min ls.length cap)) cap (nI x) K := by
  have hlen : (ls ++ [x]).length = ls.length + 1 := by simp
  rw [hlen] at hK
  by_cases q : cap ≤ ls.length
  · refine br_f (nI_pos (by omega)) (br_t (nI_le (by omega) (by omega)) ?_)
    have := hK ar (h.full q)
    rw [show min (ls.length + 1) cap = min ls.length cap by omega] at this
    exact this
  · refine br_f (nI_pos (by omega)) (br_f (nI_ge (by omega) (by omega)) ⟨vp_in_nI (by omega) (by omega), nm_r (nI_1 _) ?_⟩)
    rw [nI_clamp (by omega), show min ls.length cap = ls.length by omega]
    have := hK _ h.add
    rw [show min (ls.length + 1) cap = ls.length + 1 by omega] at this
    exact this
theorem ok_letter {x : Nat} {ls : List Nat} {ar : Nat → Int32} {K : (Nat → Int32) → Int32 → Prop} (h : Snk 1040 ls ar) (hK : ∀ ar', Snk 1040 (ls ++ [x]) ar' → K ar' (nI (min (ls ++ [x]).length 1040))) : wp_X10_letter ar (nI (min ls.length 1040)) (nI x) K := by
  have hlen : (ls ++ [x]).length = ls.length + 1 := by simp
  rw [hlen] at hK
  by_cases q : 1040 ≤ ls.length
  · refine br_t (nI_le (a := 1040) (by omega) (by omega)) ?_
    have := hK ar (h.full q)
    rw [show min (ls.length + 1) 1040 = min ls.length 1040 by omega] at this
    exact this
  · refine br_f (nI_ge (b := 1040) (by omega) (by decide)) ⟨vp_in_nI (by omega) (by decide), nm_r (nI_1 _) ?_⟩
    rw [nI_clamp (by omega), show min ls.length 1040 = ls.length by omega]
    have := hK _ h.add
    rw [show min (ls.length + 1) 1040 = ls.length + 1 by omega] at this
    exact this
theorem div32 {c : Nat} (h : c < 256) : nI c / 32 = nI (c / 32) := pk_div (d := 32) (by omega) (by decide) (by decide)
theorem rem32 {c : Nat} (h : c < 256) : nI c - nI c / 32 * 32 = nI (c % 32) := pk_rem (d := 32) (by omega) (by decide) (by decide)
theorem app2 {α : Type} (l : List α) (a b : α) : l ++ [a] ++ [b] = l ++ [a, b] := by simp
theorem app4 {α : Type} (l : List α) (a b c d : α) : l ++ [a] ++ [b] ++ [c] ++ [d] = l ++ [a, b, c, d] := by simp
theorem rng_out {c lo hi : Nat} {J B : Prop} (hc : c < 256) (hlo : lo < 256) (hhi : hi < 256) (h : ¬ (lo ≤ c ∧ c ≤ hi)) (hJ : J) : ((nI c < nI lo) → J) ∧ ((¬ nI c < nI lo) → (((nI hi < nI c) → J) ∧ ((¬ nI hi < nI c) → B))) := by
  refine ⟨fun _ => hJ, fun w => ⟨fun _ => hJ, fun z => ?_⟩⟩
  rw [nI_ltI (by omega) (by omega)] at w z
  omega
theorem ok_addCode {V c cap : Nat} {ls : List Nat} {ar : Nat → Int32} {K : (Nat → Int32) → Int32 → Prop} (hcap : cap < 2 ^ 20) (hc : c < 256) (h : Snk cap ls ar) (hK : ∀ ar', Snk cap (ls ++ lets V c) ar' → K ar' (nI (min (ls ++ lets V c).length cap))) : wp_X5_addCode (rwV V) (nI (upV V)) (nI (upV V + 1)) ar (nI (min ls.length cap)) cap (nI c) K := by
  have e1 : ∀ n, n < 256 → (nI c = nI n ↔ c = n) := fun n hn => nI_eq (by omega) (by omega)
  have l1 : ∀ n, n < 256 → (nI c < nI n ↔ c < n) := fun n hn => nI_ltI (by omega) (by omega)
  have l2 : ∀ n, n < 256 → (nI n < nI c ↔ n < c) := fun n hn => nI_ltI (by omega) (by omega)
  by_cases q0 : c = 32
  · rw [lets, if_pos q0] at hK
    exact bs_f ((e1 32 (by decide)).mpr q0) (ok_addLetter (x := 0) hcap h hK)
  rw [lets, if_neg q0] at hK
  refine bs_t (fun w => q0 ((e1 32 (by decide)).mp w)) ?_
  intro J40 h40
  by_cases q1 : 97 ≤ c ∧ c ≤ 122
  · rw [if_pos q1] at hK
    refine br_f (fun w => by have := (l1 97 (by decide)).mp w; omega) (br_f (fun w => by have := (l2 122 (by decide)).mp w; omega) ?_)
    rw [show (nI c - 97 + 6 : Int32) = nI (c - 97 + 6) from by rw [show (nI c - 97 : Int32) = nI (c - 97) from pk_sub (b := 97) (by omega)]; exact nI_add _ 6]
    exact ok_addLetter hcap h hK
  rw [if_neg q1] at hK
  refine rng_out (lo := 97) (hi := 122) hc (by decide) (by decide) q1 (h40 ?_)
  intro J74 h74
  by_cases q2 : 65 ≤ c ∧ c ≤ 90
  · rw [if_pos q2] at hK
    refine br_f (fun w => by have := (l1 65 (by decide)).mp w; omega) (br_f (fun w => by have := (l2 90 (by decide)).mp w; omega) (ok_addLetter hcap h (fun ar1 h1 => ?_)))
    rw [show (nI c - 65 + 6 : Int32) = nI (c - 65 + 6) from by rw [show (nI c - 65 : Int32) = nI (c - 65) from pk_sub (b := 65) (by omega)]; exact nI_add _ 6]
    refine ok_addLetter hcap h1 (fun ar2 h2 => ?_)
    rw [app2] at h2 ⊢
    exact hK ar2 h2
  · rw [if_neg q2] at hK
    refine rng_out (lo := 65) (hi := 90) hc (by decide) (by decide) q2 (h74 ?_)
    refine ok_addLetter hcap h (fun ar1 h1 => ⟨rwV_lt V, ?_⟩)
    rw [c2_eq c hc]
    refine ok_indexOf (rwV_lt V) hc ?_
    rw [plc_ok _ (rwV_lt V) c hc]
    by_cases q3 : plc (rwV V) c < 25
    · rw [if_pos q3] at hK ⊢
      refine br_f (nI_pos (by omega)) ?_
      rw [show (nI (plc (rwV V) c) + 7 : Int32) = nI (plc (rwV V) c + 7) from nI_add _ 7]
      refine ok_addLetter hcap h1 (fun ar2 h2 => ?_)
      rw [app2] at h2 ⊢
      exact hK ar2 h2
    · rw [if_neg q3] at hK ⊢
      rw [rem32 hc, div32 hc]
      refine br_t (by decide) (ok_addLetter (x := 6) hcap h1 (fun ar2 h2 => ok_addLetter hcap h2 (fun ar3 h3 => ok_addLetter hcap h3 (fun ar4 h4 => ?_))))
      rw [app4] at h4 ⊢
      exact hK ar4 h4
theorem ok_code {V c : Nat} {ls : List Nat} {ar : Nat → Int32} {K : (Nat → Int32) → Int32 → Prop} (hV : V < 9) (hc : c < 256) (h : Snk 1040 ls ar) (hK : ∀ ar', Snk 1040 (ls ++ lets V c) ar' → K ar' (nI (min (ls ++ lets V c).length 1040))) : wp_X10_code (nI V) ar (nI (min ls.length 1040)) (nI c) K := by
  have ec : (nI c).toInt = c := nI_toInt (by omega)
  intro J13 h13
  have main : J13 (nI (upV V)) := by
    refine h13 _ ?_
    by_cases q0 : c = 32
    · rw [lets, if_pos q0] at hK
      exact bs_f (by rw [q0]; rfl) (ok_letter (x := 0) h hK)
    rw [lets, if_neg q0] at hK
    refine bs_t (fun w => q0 ((nI_eq (b := 32) (by omega) (by decide)).mp w)) (ok_inI (A := 97) (B := 122) rfl rfl (fun w1 w2 => br_f (by decide) ?_) (fun w => br_t rfl ?_))
    · rw [if_pos (by omega)] at hK
      rw [show (nI c - 97 + 6 : Int32) = nI (c - 97 + 6) from by rw [show (nI c - 97 : Int32) = nI (c - 97) from pk_sub (b := 97) (by omega)]; exact nI_add _ 6]
      exact ok_letter h hK
    rw [if_neg (by omega)] at hK
    refine ok_inI (A := 65) (B := 90) rfl rfl (fun w1 w2 => br_f (by decide) ?_) (fun w => br_t rfl ?_)
    · rw [if_pos (by omega)] at hK
      refine ok_letter h (fun ar1 h1 => ?_)
      rw [show (nI c - 65 + 6 : Int32) = nI (c - 65 + 6) from by rw [show (nI c - 65 : Int32) = nI (c - 65) from pk_sub (b := 65) (by omega)]; exact nI_add _ 6]
      refine ok_letter h1 (fun ar2 h2 => ?_)
      rw [app2] at h2 ⊢
      exact hK ar2 h2
    rw [if_neg (by omega)] at hK
    rw [nI_1]
    refine ok_letter h (fun ar1 h1 => ?_)
    intro L hL
    have key : ∀ k, k ≤ 25 → L (plF (rwV V) c (25 - k) k) (nI k + (-1)) := by
      intro k
      induction k with
      | zero =>
        intro _
        refine hL _ _ (br_t (by decide) ?_)
        show ((plF (rwV V) c 25 0 < 0) → _) ∧ ((¬ plF (rwV V) c 25 0 < 0) → _)
        rw [plc_ok _ (rwV_lt V) c hc]
        by_cases q3 : plc (rwV V) c < 25
        · rw [if_pos q3] at hK ⊢
          refine br_f (nI_pos (by omega)) ?_
          rw [show (nI (plc (rwV V) c) + 7 : Int32) = nI (plc (rwV V) c + 7) from nI_add _ 7]
          refine ok_letter h1 (fun ar2 h2 => ?_)
          rw [app2] at h2 ⊢
          exact hK ar2 h2
        · rw [if_neg q3] at hK ⊢
          rw [rem32 hc, div32 hc]
          refine br_t (by decide) (ok_letter (x := 6) h1 (fun ar2 h2 => ok_letter h2 (fun ar3 h3 => ok_letter h3 (fun ar4 h4 => ?_))))
          rw [app4] at h4 ⊢
          exact hK ar4 h4
      | succ k ih =>
        intro hk
        rw [pk_m1]
        refine hL _ _ (br_f (nI_pos (by omega)) (ok_rowAt hV (by omega) ?_))
        intro J hJ
        have hrow : (rowS (rwV V)).getD k 0 < 128 := rowS_128 _ (rwV_lt V) k (by omega)
        have e := plF_s (r := rwV V) (c := c) (24 - k) k
        rw [show 24 - k + 1 = 25 - k by omega] at e
        have ih2 := ih (by omega)
        rw [e] at ih2
        rw [show 25 - (k + 1) = 24 - k by omega]
        refine bs_c (fun w => hJ _ ?_) (fun w => hJ _ ?_)
        · rw [if_neg (fun z => w (by rw [z]))] at ih2
          exact ih2
        · rw [if_pos ((nI_eq (by omega) (by omega)).mp w)] at ih2
          exact ih2
    exact key 25 (Nat.le_refl _)
  by_cases q : V ≤ 2
  · have e : upV V = 2 := if_pos q
    rw [e] at main
    exact br_f (nI_nlt (a := 2) q (by decide)) main
  · have e : upV V = 4 := if_neg q
    rw [e] at main
    exact br_t (nI_lt (a := 2) (by omega) (by omega)) main
