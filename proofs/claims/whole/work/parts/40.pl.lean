-- PURE 21: a line is kept, echoed
def dnF (w : Nat) (g : Nat → Int32) (m : Nat) : Nat → Int32 := fun j => if j < m then g (j + w) else g j
theorem dnF_0 (w : Nat) (g : Nat → Int32) : dnF w g 0 = g := by
  funext j
  unfold dnF
  rw [if_neg (Nat.not_lt_zero j)]
theorem dnF_at {w : Nat} {g : Nat → Int32} {m j : Nat} (h : j < m) : dnF w g m j = g (j + w) := if_pos h
theorem dnF_s {w : Nat} (hw : 0 < w) (g : Nat → Int32) (m : Nat) : upd (dnF w g m) m (dnF w g m (m + w)) = dnF w g (m + 1) := by
  funext j
  by_cases e : j = m
  · subst e
    rw [pk_us]
    unfold dnF
    rw [if_neg (by omega), if_pos (by omega)]
  · rw [pk_un e]
    unfold dnF
    by_cases q : j < m
    · rw [if_pos q, if_pos (by omega)]
    · rw [if_neg q, if_neg (by omega)]
theorem blk_in {f w : Nat → Int32} {a k j : Nat} (h : a ≤ j) (h2 : j < a + k) : blk f a w k j = w (j - a) := if_pos ⟨h, h2⟩
theorem blk_out {f w : Nat → Int32} {a k j : Nat} (h : j < a ∨ a + k ≤ j) : blk f a w k j = f j := if_neg (by omega)
theorem ok_keepC {n k la : Nat} {cd ll lcd : Nat → Int32} {K : Int32 → Int32 → (Nat → Int32) → (Nat → Int32) → Prop} (hn : 0 < n) (hn2 : n ≤ 255) (hk : k ≤ 8) (hla : la < 8) (h : K (nI (min (k + 1) 8)) (nI ((la + 1) % 8)) (upd ll ((la + 1) % 8) (nI n)) (blk lcd ((la + 1) % 8 * 255) cd n)) : wp_X3_keep (nI n) cd (nI k) (nI la) ll lcd K := by
  have hm : (la + 1) % 8 < 8 := Nat.mod_lt _ (by decide)
  have e1 : (nI la + 1 - (nI la + 1) / 8 * 8 : Int32) = nI ((la + 1) % 8) := by rw [nI_1, rem_8 (by omega)]
  obtain ⟨s, es⟩ : ∃ s, s = (la + 1) % 8 := ⟨_, rfl⟩
  rw [← es] at hm e1 h
  have e2 : (if (8 : Int32) < nI k + 1 then 8 else nI k + 1) = nI (min (k + 1) 8) := by
    rw [nI_1]
    by_cases q : 8 < k + 1
    · rw [if_pos (show (8 : Int32) < nI (k + 1) from nI_lt (a := 8) q (by omega)), Nat.min_eq_right (by omega)]; rfl
    · rw [if_neg (show ¬ (8 : Int32) < nI (k + 1) from nI_nlt (a := 8) (by omega) (by decide)), Nat.min_eq_left (by omega)]
  refine bs_t (nI_ne0 hn (by omega)) (nm_r e1 (nm_r e2 (fun J65 h65 => br_f (nI_pos (by omega)) (br_f (nI_ge (b := 8) hm (by decide)) ⟨vp_in_nI hm (by decide), h65 _ ?_⟩))))
  rw [nI_clamp (by omega)]
  intro L hL
  have key : ∀ i, i ≤ n → L (nI i) (blk lcd (s * 255) cd i) := by
    refine for_up (P := fun i => L (nI i) (blk lcd (s * 255) cd i)) ?_ (fun i hi ih => ?_)
    · exact hL _ _ (br_t (nI_le (Nat.le_refl _) (by omega)) h)
    · rw [← blk_s] at ih
      refine hL _ _ (br_f (nI_ge hi (by omega)) (nm_r (e' := nI (s * 255 + i)) (by rw [show (nI s * 255 : Int32) = nI (s * 255) from pk_mul _ 255, nI_add]) (fun J110 h110 => br_f (nI_pos (by omega)) (br_f (nI_ge (b := 2040) (by omega) (by decide)) (ok_code7 hi hn2 ⟨vp_in_nI (by omega) (by decide), h110 _ ?_⟩)))))
      rw [nI_clamp (by omega), nI_1]
      exact ih
  have := key 0 (Nat.zero_le _)
  rw [blk_0, nI_0] at this
  exact this
/-- the reference's row of lines, as wp_X10_ends goes over it -/
def kpM (mo_codes : Nat → Int32) (mo_many : Int32) (mo_lineSize : Nat → Int32) (mo_line : Nat → Int32) (mo_lines : Int32) (J157 : (Nat → Int32) → (Nat → Int32) → Int32 → Prop) : Prop :=
  (((mo_many ≤ 0) → (J157 mo_lineSize mo_line mo_lines)) ∧ ((¬ mo_many ≤ 0) → (∀ J97 : (Nat → Int32) → (Nat → Int32) → Int32 → Prop, (∀ (mo_lineSize_2 : Nat → Int32) (mo_line_2 : Nat → Int32) (mo_lines_2 : Int32), (vp_in mo_lines_2 8 ∧ (∀ L112 : Int32 → (Nat → Int32) → Prop, (∀ (x2_2 : Int32) (mo_line_3 : Nat → Int32), (((mo_many ≤ x2_2) → (∀ v_1 : Int32, v_1 = (mo_lines_2 + 1) → (J157 (upd mo_lineSize_2 (Int32.toNatClampNeg mo_lines_2) mo_many) mo_line_3 v_1))) ∧ ((¬ mo_many ≤ x2_2) → (vp_in x2_2 256 ∧ (vp_in ((256 * mo_lines_2) + x2_2) 2048 ∧ (L112 (x2_2 + 1) (upd mo_line_3 (Int32.toNatClampNeg ((256 * mo_lines_2) + x2_2)) (mo_codes (Int32.toNatClampNeg x2_2)))))))) → L112 x2_2 mo_line_3) → L112 0 mo_line_2)) → J97 mo_lineSize_2 mo_line_2 mo_lines_2) → (((¬ mo_lines = 8) → (J97 mo_lineSize mo_line mo_lines)) ∧ ((mo_lines = 8) → (∀ L22 : Int32 → (Nat → Int32) → (Nat → Int32) → Prop, (∀ (x2_3 : Int32) (mo_lineSize_3 : Nat → Int32) (mo_line_4 : Nat → Int32), (((7 ≤ x2_3) → (J97 mo_lineSize_3 mo_line_4 7)) ∧ ((¬ 7 ≤ x2_3) → (vp_in (x2_3 + 1) 8 ∧ (vp_in x2_3 8 ∧ (∀ L44 : Int32 → (Nat → Int32) → Prop, (∀ (x3_1 : Int32) (mo_line_5 : Nat → Int32), (((256 ≤ x3_1) → (L22 (x2_3 + 1) (upd mo_lineSize_3 (Int32.toNatClampNeg x2_3) (mo_lineSize_3 (Int32.toNatClampNeg (x2_3 + 1)))) mo_line_5)) ∧ ((¬ 256 ≤ x3_1) → (vp_in (((256 * x2_3) + 256) + x3_1) 2048 ∧ (vp_in ((256 * x2_3) + x3_1) 2048 ∧ (L44 (x3_1 + 1) (upd mo_line_5 (Int32.toNatClampNeg ((256 * x2_3) + x3_1)) (mo_line_5 (Int32.toNatClampNeg (((256 * x2_3) + 256) + x3_1))))))))) → L44 x3_1 mo_line_5) → L44 0 mo_line_4))))) → L22 x2_3 mo_lineSize_3 mo_line_4) → L22 0 mo_lineSize mo_line))))))
theorem ok_kpM {n k : Nat} {cd ls ln : Nat → Int32} {J : (Nat → Int32) → (Nat → Int32) → Int32 → Prop} (hn : 0 < n) (hn2 : n ≤ 255) (hk : k ≤ 8)
    (h1 : k < 8 → J (upd ls k (nI n)) (blk ln (256 * k) cd n) (nI (k + 1)))
    (h2 : k = 8 → J (upd (dnF 1 ls 7) 7 (nI n)) (blk (dnF 256 ln 1792) 1792 cd n) (nI 8)) : kpM cd (nI n) ls ln (nI k) J := by
  have n0 : ¬ nI n ≤ 0 := nI_ge (a := 0) hn (by omega)
  have k8 : nI k = 8 ↔ k = 8 := nI_eq (b := 8) (by omega) (by decide)
  refine br_f n0 (fun J97 h97 => ?_)
  have put : ∀ (a b : Nat → Int32) (m : Nat), m < 8 → J (upd a m (nI n)) (blk b (256 * m) cd n) (nI (m + 1)) → J97 a b (nI m) := by
    intro a b m hm hJ
    refine h97 _ _ _ ⟨vp_in_nI hm (by decide), fun L hL => ?_⟩
    have key : ∀ i, i ≤ n → L (nI i) (blk b (256 * m) cd i) := by
      refine for_up (P := fun i => L (nI i) (blk b (256 * m) cd i)) ?_ (fun i hi ih => ?_)
      · refine hL _ _ (br_t (nI_le (Nat.le_refl _) (by omega)) (nm_r (nI_1 m) ?_))
        rw [nI_clamp (by omega)]
        exact hJ
      · rw [← blk_s] at ih
        refine hL _ _ (br_f (nI_ge hi (by omega)) ?_)
        rw [show (256 : Int32) * nI m = nI (256 * m) from pk_mul 256 m, nI_add, nI_clamp (by omega), nI_clamp (by omega), nI_1]
        exact ⟨vp_in_nI (by omega) (by decide), vp_in_nI (by omega) (by decide), ih⟩
    have := key 0 (Nat.zero_le _)
    rw [blk_0, nI_0] at this
    exact this
  rcases Nat.lt_or_ge k 8 with q | q
  · exact bs_t (fun w => by have := k8.mp w; omega) (put _ _ _ q (h1 q))
  · have ek : k = 8 := by omega
    refine bs_f (k8.mpr ek) (fun L hL => ?_)
    have fin : J97 (dnF 1 ls 7) (dnF 256 ln 1792) 7 := put _ _ 7 (by decide) (h2 ek)
    clear put h97 h1 h2
    have key : ∀ i, i ≤ 7 → L (nI i) (dnF 1 ls i) (dnF 256 ln (256 * i)) := by
      refine for_up (P := fun i => L (nI i) (dnF 1 ls i) (dnF 256 ln (256 * i))) ?_ (fun i hi ih => ?_)
      · exact hL _ _ _ (br_t (by decide) fin)
      · rw [← dnF_s (by decide)] at ih
        refine hL _ _ _ (br_f (nI_ge (b := 7) hi (by decide)) ?_)
        rw [nI_1, nI_clamp (by omega), nI_clamp (by omega)]
        refine ⟨vp_in_nI (by omega) (by decide), vp_in_nI (by omega) (by decide), fun L2 hL2 => ?_⟩
        have key2 : ∀ j, j ≤ 256 → L2 (nI j) (dnF 256 ln (256 * i + j)) := by
          refine for_up (P := fun j => L2 (nI j) (dnF 256 ln (256 * i + j))) ?_ (fun j hj ih2 => ?_)
          · exact hL2 _ _ (br_t (by decide) ih)
          · rw [← Nat.add_assoc, ← dnF_s (by decide)] at ih2
            refine hL2 _ _ (br_f (nI_ge (b := 256) hj (by decide)) ?_)
            rw [show (256 : Int32) * nI i = nI (256 * i) from pk_mul 256 i, show nI (256 * i) + (256 : Int32) = nI (256 * i + 256) from nI_add _ 256, nI_add, nI_add, nI_clamp (by omega), nI_clamp (by omega), nI_1, show 256 * i + 256 + j = 256 * i + j + 256 by omega]
            exact ⟨vp_in_nI (by omega) (by decide), vp_in_nI (by omega) (by decide), ih2⟩
        have := key2 0 (Nat.zero_le _)
        exact this
    have := key 0 (Nat.zero_le _)
    rw [dnF_0, Nat.mul_zero, dnF_0, nI_0] at this
    exact this
theorem sim_keep {n k la : Nat} {cd cd' ll lcd ls ln : Nat → Int32} (hR : RLn k la ll lcd ls ln) (hn2 : n ≤ 255) (hc : ∀ i, i < n → cd i = cd' i ∧ ∃ c, c < 256 ∧ cd i = nI c) : ∃ k2 la2 ll2 lcd2 ls2 ln2, RLn k2 la2 ll2 lcd2 ls2 ln2 ∧ (∀ K : Int32 → Int32 → (Nat → Int32) → (Nat → Int32) → Prop, K (nI k2) (nI la2) ll2 lcd2 → wp_X3_keep (nI n) cd (nI k) (nI la) ll lcd K) ∧ (∀ J : (Nat → Int32) → (Nat → Int32) → Int32 → Prop, J ls2 ln2 (nI k2) → kpM cd' (nI n) ls ln (nI k) J) := by
  obtain ⟨hk, hla, hj⟩ := id hR
  rcases Nat.eq_zero_or_pos n with q | q
  · subst q
    exact ⟨k, la, ll, lcd, ls, ln, hR, fun K hK => bs_f rfl hK, fun J hJ => br_t (by decide) hJ⟩
  · have hm : (la + 1) % 8 < 8 := Nat.mod_lt _ (by decide)
    obtain ⟨s, es⟩ : ∃ s, s = (la + 1) % 8 := ⟨_, rfl⟩
    -- what stood in the ring
    have old : ∀ j, j < k → 0 < j + 1 → j + 1 < 8 → (s + 8 - (j + 1)) % 8 = (la + 8 - j) % 8 ∧ ¬ (la + 8 - j) % 8 = s := fun j h1 h2 h3 => by omega
    have new : (s + 8 - 0) % 8 = s := by omega
    rcases Nat.lt_or_ge k 8 with w | w
    · refine ⟨k + 1, s, upd ll s (nI n), blk lcd (s * 255) cd n, upd ls k (nI n), blk ln (256 * k) cd' n, ⟨by omega, by omega, fun j h1 => ?_⟩, fun K hK => ok_keepC q hn2 hk hla (by rw [Nat.min_eq_left (by omega), ← es]; exact hK), fun J hJ => ok_kpM q hn2 hk (fun _ => hJ) (fun z => absurd z (by omega))⟩
      rcases Nat.eq_zero_or_pos j with z | z
      · subst z
        refine ⟨n, q, hn2, ?_, ?_, fun i hi => ?_⟩
        · rw [new, pk_us]
        · rw [show k + 1 - 1 - 0 = k by omega, pk_us]
        · obtain ⟨c1, c2⟩ := hc i hi
          rw [new, show k + 1 - 1 - 0 = k by omega, blk_in (by omega) (by omega), blk_in (by omega) (by omega), show s * 255 + i - s * 255 = i by omega, show 256 * k + i - 256 * k = i by omega, ← c1]
          exact ⟨rfl, c2⟩
      · obtain ⟨j', ej⟩ : ∃ j', j = j' + 1 := ⟨j - 1, by omega⟩
        subst ej
        obtain ⟨len, l0, l1, l2, l3, l4⟩ := hj j' (by omega)
        obtain ⟨o1, o2⟩ := old j' (by omega) (by omega) (by omega)
        rw [o1]
        obtain ⟨m, em⟩ : ∃ m, m = (la + 8 - j') % 8 := ⟨_, rfl⟩
        rw [← em] at l2 l4 o2 ⊢
        have er : k + 1 - 1 - (j' + 1) = k - 1 - j' := by omega
        rw [er]
        refine ⟨len, l0, l1, ?_, ?_, fun i hi => ?_⟩
        · rw [pk_un o2]; exact l2
        · rw [pk_un (by omega)]; exact l3
        · rw [blk_out (by omega), blk_out (by omega)]; exact l4 i hi
    · have k8 : k = 8 := by omega
      subst k8
      refine ⟨8, s, upd ll s (nI n), blk lcd (s * 255) cd n, upd (dnF 1 ls 7) 7 (nI n), blk (dnF 256 ln 1792) 1792 cd' n, ⟨by omega, by omega, fun j h1 => ?_⟩, fun K hK => ok_keepC q hn2 hk hla (by rw [Nat.min_eq_right (by omega), ← es]; exact hK), fun J hJ => ok_kpM q hn2 hk (fun z => absurd z (by omega)) (fun _ => hJ)⟩
      rcases Nat.eq_zero_or_pos j with z | z
      · subst z
        refine ⟨n, q, hn2, ?_, ?_, fun i hi => ?_⟩
        · rw [new, pk_us]
        · rw [show 8 - 1 - 0 = 7 by omega, pk_us]
        · obtain ⟨c1, c2⟩ := hc i hi
          rw [new, show 256 * (8 - 1 - 0) = 1792 by omega, blk_in (by omega) (by omega), blk_in (by omega) (by omega), show s * 255 + i - s * 255 = i by omega, show 1792 + i - 1792 = i by omega, ← c1]
          exact ⟨rfl, c2⟩
      · obtain ⟨j', ej⟩ : ∃ j', j = j' + 1 := ⟨j - 1, by omega⟩
        subst ej
        obtain ⟨len, l0, l1, l2, l3, l4⟩ := hj j' (by omega)
        obtain ⟨o1, o2⟩ := old j' (by omega) (by omega) (by omega)
        rw [o1]
        obtain ⟨m, em⟩ : ∃ m, m = (la + 8 - j') % 8 := ⟨_, rfl⟩
        rw [← em] at l2 l4 o2 ⊢
        have er : 8 - 1 - j' = 8 - 1 - (j' + 1) + 1 := by omega
        rw [er] at l3 l4
        obtain ⟨x, ex⟩ : ∃ x, x = 8 - 1 - (j' + 1) := ⟨_, rfl⟩
        rw [← ex] at l3 l4 ⊢
        refine ⟨len, l0, l1, ?_, ?_, fun i hi => ?_⟩
        · rw [pk_un o2]; exact l2
        · rw [pk_un (by omega), dnF_at (by omega)]; exact l3
        · rw [blk_out (by omega), blk_out (by omega), dnF_at (by omega), show 256 * x + i + 256 = 256 * (x + 1) + i by omega]; exact l4 i hi
/-- the echo behind i codes -/
def ecF (E : Nat) (ec w : Nat → Int32) : Nat → (Nat → Int32)
  | 0 => ec
  | i + 1 => upd (ecF E ec w i) ((E + i) % 2000) (w i)
theorem ecF_s (E : Nat) (ec w : Nat → Int32) (i : Nat) : ecF E ec w (i + 1) = upd (ecF E ec w i) ((E + i) % 2000) (w i) := rfl
theorem ecF_congr {E : Nat} {ec w w' : Nat → Int32} : ∀ {n : Nat}, (∀ i, i < n → w i = w' i) → ecF E ec w n = ecF E ec w' n := by
  intro n
  induction n with
  | zero => intro _; rfl
  | succ n ih => intro h; rw [ecF_s, ecF_s, ih (fun i hi => h i (by omega)), h n (by omega)]
theorem ok_ecC {E : Nat} {ec : Nat → Int32} {x : Int32} {K : Int32 → (Nat → Int32) → Prop} (hE : E < 2 ^ 30) (h : K (nI (E + 1)) (upd ec (E % 2000) x)) : wp_X2_add (nI E) ec x K := by
  have hm : E % 2000 < 2000 := Nat.mod_lt _ (by decide)
  refine nm_r (rem_2000 (by omega)) (br_f (nI_pos (by omega)) (br_f (nI_ge (b := 2000) hm (by decide)) ⟨vp_in_nI hm (by decide), nm_r (nI_1 E) ?_⟩))
  rw [nI_clamp (by omega)]
  exact h
theorem ok_ecM {E : Nat} {ec : Nat → Int32} {x : Int32} {K : (Nat → Int32) → Int32 → Prop} (hE : E < 2 ^ 30) (h : K (upd ec (E % 2000) x) (nI (E + 1))) : wp_X10_echoes ec (nI E) x K := by
  have hm : E % 2000 < 2000 := Nat.mod_lt _ (by decide)
  unfold wp_X10_echoes
  rw [rem_2000 (by omega), nI_clamp (by omega)]
  exact ⟨vp_in_nI hm (by decide), nm_r (nI_1 E) h⟩
