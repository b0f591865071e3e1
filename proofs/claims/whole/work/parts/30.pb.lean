-- PURE 11: parsing, the program's way
theorem wd_len (s l : Nat) : (wd s l).length ≤ l ∧ (wd s l).length ≤ 1 := by
  unfold wd
  split
  · simp
  · simp; omega
theorem wds_in {f : Nat → Int32} {d : Nat} : ∀ m i b, b ≤ i → ∀ q ∈ wds f d m i b, b ≤ q.1 ∧ q.1 + q.2 ≤ i + m ∧ 0 < q.2 := by
  have hwd : ∀ b x, ∀ q ∈ wd b x, q = (b, x) ∧ x ≠ 0 := by
    intro b x q hq
    unfold wd at hq
    split at hq
    · cases hq
    · exact ⟨List.mem_singleton.mp hq, by assumption⟩
  intro m
  induction m with
  | zero =>
    intro i b hb q hq
    obtain ⟨rfl, h2⟩ := hwd _ _ q hq
    exact ⟨Nat.le_refl _, by show b + (i - b) ≤ i + 0; omega, by show 0 < i - b; omega⟩
  | succ m ih =>
    intro i b hb q hq
    rw [wds_s] at hq
    split at hq
    · rcases List.mem_append.mp hq with hq | hq
      · obtain ⟨rfl, h2⟩ := hwd _ _ q hq
        exact ⟨Nat.le_refl _, by show b + (i - b) ≤ i + (m + 1); omega, by show 0 < i - b; omega⟩
      · rcases List.mem_cons.mp hq with rfl | hq
        · exact ⟨hb, by show i + 1 ≤ i + (m + 1); omega, Nat.one_pos⟩
        · obtain ⟨h1, h2, h3⟩ := ih _ _ (Nat.le_refl _) q hq
          exact ⟨by omega, by omega, h3⟩
    · split at hq
      · rcases List.mem_append.mp hq with hq | hq
        · obtain ⟨rfl, h2⟩ := hwd _ _ q hq
          exact ⟨Nat.le_refl _, by show b + (i - b) ≤ i + (m + 1); omega, by show 0 < i - b; omega⟩
        · obtain ⟨h1, h2, h3⟩ := ih _ _ (Nat.le_refl _) q hq
          exact ⟨by omega, by omega, h3⟩
      · obtain ⟨h1, h2, h3⟩ := ih (i + 1) b (by omega) q hq
        exact ⟨h1, by omega, h3⟩
theorem wds_len {f : Nat → Int32} {d : Nat} : ∀ m i b, b ≤ i → (wds f d m i b).length ≤ i + m - b := by
  intro m
  induction m with
  | zero =>
    intro i b hb
    exact (wd_len b (i - b)).1
  | succ m ih =>
    intro i b hb
    rw [wds_s]
    have h1 := wd_len b (i - b)
    have h2 := ih (i + 1) (i + 1) (Nat.le_refl _)
    have h3 := ih (i + 1) b (by omega)
    split
    · rw [List.length_append, List.length_cons]; omega
    · split
      · rw [List.length_append]; omega
      · omega
noncomputable def WL (V : Nat) (f : Nat → Int32) (t d : Nat) : List (Nat × Nat) := wds f d (txE V f t - txF V t) (txF V t) (txF V t)
noncomputable def mny (V : Nat) (f : Nat → Int32) (t p d : Nat) : Nat := min (WL V f t d).length (gv f p)
def pOK (V : Nat) (f : Nat → Int32) (t p d : Nat) : Prop := txOK V f t ∧ dOK V f d ∧ p + 2 + 4 * mny V f t p d ≤ 4096
noncomputable def wAt (V : Nat) (f : Nat → Int32) (t d k : Nat) : Nat × Nat := (WL V f t d).getD k (0, 0)
noncomputable def enAt (V : Nat) (f : Nat → Int32) (t d k : Nat) : Nat := ent V f d (wAt V f t d k).1 (wAt V f t d k).2
def w4 (g : Nat → Int32) (to E l s : Nat) : Nat → Int32 := upd (upd (upd (upd g to (nI (E / 256))) (to + 1) (nI (E % 256))) (to + 2) (nI (l % 256))) (to + 3) (nI (s % 256))
noncomputable def telF (V : Nat) (f : Nat → Int32) (t p d : Nat) (fl : Int32) : Nat → (Nat → Int32)
  | 0 => upd f (p + 1) (nI (mny V f t p d))
  | k + 1 => if (¬ fl = 0) ∧ enAt V f t d k = 0 then telF V f t p d fl k else w4 (telF V f t p d fl k) (p + 2 + 4 * k) (enAt V f t d k) (wAt V f t d k).2 ((wAt V f t d k).1 - t)
theorem telF_s (V : Nat) (f : Nat → Int32) (t p d : Nat) (fl : Int32) (k : Nat) : telF V f t p d fl (k + 1) = if (¬ fl = 0) ∧ enAt V f t d k = 0 then telF V f t p d fl k else w4 (telF V f t p d fl k) (p + 2 + 4 * k) (enAt V f t d k) (wAt V f t d k).2 ((wAt V f t d k).1 - t) := rfl
theorem entF_le {V : Nat} {f : Nat → Int32} {d a n : Nat} (h : dOK V f d) : ∀ m i, i + m = dct f d → entF V f d a n m i ≤ 4096 := by
  intro m
  induction m with
  | zero => intro i _; exact Nat.zero_le _
  | succ m ih =>
    intro i hi
    rw [entF_s]
    split
    · have := ent_in h (show i < dct f d by omega); omega
    · exact ih (i + 1) (by omega)
theorem ent_le {V : Nat} {f : Nat → Int32} {d a n : Nat} (h : dOK V f d) : ent V f d a n ≤ 4096 := entF_le h _ _ (Nat.zero_add _)
theorem wAt_in {V : Nat} {f : Nat → Int32} {t d k : Nat} (hk : k < (WL V f t d).length) : txF V t ≤ (wAt V f t d k).1 ∧ (wAt V f t d k).1 + (wAt V f t d k).2 ≤ txE V f t ∧ 0 < (wAt V f t d k).2 := by
  have hm : wAt V f t d k ∈ WL V f t d := by
    unfold wAt
    rw [List.getD_eq_getElem?_getD, List.getElem?_eq_getElem hk]
    exact List.getElem_mem hk
  have := wds_in _ _ _ (Nat.le_refl _) _ hm
  have h2 := txFE (V := V) (f := f) (t := t)
  exact ⟨this.1, by omega, this.2.2⟩
theorem WL_len {V : Nat} {f : Nat → Int32} {t d : Nat} : (WL V f t d).length ≤ txE V f t - txF V t := by
  have := wds_len (f := f) (d := d) (txE V f t - txF V t) (txF V t) (txF V t) (Nat.le_refl _)
  unfold WL
  omega
theorem txF_gt (V t : Nat) : t < txF V t := by unfold txF; split <;> omega
theorem w4_byt {g : Nat → Int32} {to E l s : Nat} (h : Byt g) (hE : E < 65536) : Byt (w4 g to E l s) := (((h.of_upd (by omega)).of_upd (Nat.mod_lt _ (by decide))).of_upd (Nat.mod_lt _ (by decide))).of_upd (Nat.mod_lt _ (by decide))
theorem telF_byt {V : Nat} {f : Nat → Int32} {t p d : Nat} {fl : Int32} (hB : Byt f) (h : dOK V f d) : ∀ k, Byt (telF V f t p d fl k) := by
  intro k
  induction k with
  | zero =>
    have := (gv_ok hB p).1
    exact hB.of_upd (by unfold mny; omega)
  | succ k ih =>
    rw [telF_s]
    split
    · exact ih
    · exact w4_byt ih (by have := ent_le (a := (wAt V f t d k).1) (n := (wAt V f t d k).2) h; unfold enAt; omega)
theorem ok_tellWord {g st ln en : Nat → Int32} {i to t E l s : Nat} {K : (Nat → Int32) → Prop} (hi : i < 255) (hs : st i = nI s) (hl : ln i = nI l) (hE : en i = nI E) (h4 : to + 4 ≤ 4096) (hts : t ≤ s) (hE2 : E < 65536) (hl2 : l < 65536) (hs2 : s < 65536) (h : K (w4 g to E l (s - t))) : wp_X6_tellWord g st ln en (nI i) (nI to) (nI t) K := by
  have vi : vp_in (nI i) 255 := vp_in_nI hi (by decide)
  have ci : (nI i).toNatClampNeg = i := nI_clamp (by omega)
  refine br_f (nI_pos (by omega)) (br_f (nI_ge (b := 255) hi (by decide)) ⟨vi, ?_⟩)
  rw [ci, hs, hl, hE, nI_l (by omega), pk_sub hts, show (nI to + 2 : Int32) = nI (to + 2) from nI_add _ 2, show (nI to + 3 : Int32) = nI (to + 3) from nI_add _ 3]
  refine ok_store (n := 2) (by omega) (by decide) ⟨vi, ok_setOctet (by omega) ⟨vi, ok_setOctet (by omega) ?_⟩⟩
  rw [and_255 hl2, and_255 (by omega)]
  have e0 := blk_s g to (fun i => oc8 (lN E) (8 * (2 - 1 - i))) 0
  have e1 := blk_s g to (fun i => oc8 (lN E) (8 * (2 - 1 - i))) 1
  rw [blk_0] at e0
  rw [← e1, ← e0]
  have o0 : oc8 (lN E) (8 * (2 - 1 - 0)) = nI (E / 256) := by
    unfold oc8
    rw [wb_tn (by omega)]
    congr 1
    show E / 256 % 256 = E / 256
    omega
  have o1 : oc8 (lN E) (8 * (2 - 1 - 1)) = nI (E % 256) := by
    unfold oc8
    rw [wb_tn (by omega)]
    congr 1
    show E / 1 % 256 = E % 256
    omega
  rw [o0, o1]
  exact h
theorem mn2 {a b : Nat} (ha : a < 2 ^ 31) (hb : b < 256) : (if (if (255 : Int32) < nI b then 255 else nI b) < nI a then (if (255 : Int32) < nI b then 255 else nI b) else nI a) = nI (min a b) := by
  rw [if_neg (show ¬ (255 : Int32) < nI b from nI_nlt (b := b) (a := 255) (by omega) (by decide))]
  by_cases q : b < a
  · rw [if_pos (nI_lt q ha), Nat.min_eq_right (by omega)]
  · rw [if_neg (nI_nlt (by omega) (by omega)), Nat.min_eq_left (by omega)]
theorem ok_run {V t p d : Nat} {f ar sp st ln en : Nat → Int32} {u de ds dm w tf te fl : Int32} {K : Int32 → (Nat → Int32) → (Nat → Int32) → Int32 → (Nat → Int32) → Int32 → Int32 → Int32 → (Nat → Int32) → (Nat → Int32) → (Nat → Int32) → Int32 → Int32 → Int32 → Prop} (hB : Byt f) (ht : t ≤ 4000) (hp : p ≤ 4000) (hd : d ≤ 4000) (h1 : pOK V f t p d → ∀ x1 x2 x3 x4 x5 x6 x7 x8 x9 x10 x11 x12, K (nI (WL V f t d).length) (telF V f t p d fl (mny V f t p d)) x1 x2 x3 x4 x5 x6 x7 x8 x9 x10 x11 x12) (h0 : ¬ pOK V f t p d → ∀ x1 x2 x3 x4 x5 x6 x7 x8 x9 x10 x11 x12, K (-3) f x1 x2 x3 x4 x5 x6 x7 x8 x9 x10 x11 x12) : wp_X6_run f (rwV V) (nI (upV V)) (nI (upV V + 1)) ar u (nV V) (nI (szV V)) sp de ds dm (cntV V) st ln en w tf te (nI t) (nI p) (nI d) fl K := by
  refine ok_findText hB ht (fun tok => br_f (by decide) (ok_open (V := V) hB hd (fun dok sp' hs => bs_t (by decide) (ok_split hB hs txFE (txOK_le tok) (fun st' ln' hw => ok_octet (by omega) ?_))) (fun nd sp' e' s' m' => bs_f rfl (h0 (fun z => nd z.2.1) _ _ _ _ _ _ _ _ _ _ _ _)))) (fun nt a b => br_t rfl (h0 (fun z => nt z.1) _ _ _ _ _ _ _ _ _ _ _ _))
  have htE := txOK_le tok
  have hwl := WL_len (V := V) (f := f) (t := t) (d := d)
  have hg := gv_ok hB p
  have hm1 : mny V f t p d ≤ (WL V f t d).length := Nat.min_le_left _ _
  have hm2 : mny V f t p d ≤ 255 := by have : mny V f t p d ≤ gv f p := Nat.min_le_right _ _; omega
  have hw2 : Wst 255 (WL V f t d) st' ln' := hw
  obtain ⟨N, eN⟩ : ∃ N, N = mny V f t p d := ⟨_, rfl⟩
  rw [hg.2]
  refine nm_r (e' := nI N) (by rw [eN]; exact mn2 (a := (WL V f t d).length) (by omega) hg.1) ?_
  rw [show (2 : Int32) + 4 * nI N = nI (2 + 4 * N) from by rw [show (4 : Int32) * nI N = nI (4 * N) from pk_mul 4 N]; exact nI_add 2 _]
  refine ok_holds (by omega) ?_
  rw [nI_toInt (by omega)]
  by_cases q : p + 2 + 4 * N ≤ 4096
  · have pok : pOK V f t p d := ⟨tok, dok, by rw [← eN]; exact q⟩
    rw [inMb_t (by unfold inM; omega)]
    refine bs_t (by decide) ?_
    have wj : ∀ j, j < N → st' j = nI (wAt V f t d j).1 ∧ ln' j = nI (wAt V f t d j).2 := fun j hj => hw2 j (by omega) (by omega)
    intro L hL
    have key : ∀ i, i ≤ N → ∀ ar1 u1 (en1 : Nat → Int32), (∀ j, j < i → en1 j = nI (enAt V f t d j)) → L (nI i) ar1 u1 en1 := by
      refine for_up (P := fun i => ∀ ar1 u1 (en1 : Nat → Int32), (∀ j, j < i → en1 j = nI (enAt V f t d j)) → L (nI i) ar1 u1 en1) ?_ (fun i hi ih => ?_)
      · intro ar1 u1 en1 hen
        refine hL _ _ _ _ (br_t (nI_le (Nat.le_refl _) (by omega)) ?_)
        rw [nI_1]
        refine ok_setOctet (by omega) ?_
        rw [n255 (by omega)]
        intro L2 hL2
        have key2 : ∀ i, i ≤ N → L2 (nI i) (telF V f t p d fl i) := by
          refine for_up (P := fun i => L2 (nI i) (telF V f t p d fl i)) ?_ (fun i hi ih => ?_)
          · refine hL2 _ _ (br_t (nI_le (Nat.le_refl _) (by omega)) ?_)
            have := h1 pok
            rw [← eN] at this
            exact this _ _ _ _ _ _ _ _ _ _ _ _
          · have wi := wAt_in (V := V) (f := f) (t := t) (d := d) (k := i) (by omega)
            have tg := txF_gt V t
            have ele : enAt V f t d i ≤ 4096 := ent_le dok
            have vi : vp_in (nI i) 255 := vp_in_nI (by omega) (by decide)
            have ci : (nI i).toNatClampNeg = i := nI_clamp (by omega)
            have ez : nI (enAt V f t d i) = 0 ↔ enAt V f t d i = 0 := nI_eq (b := 0) (by omega) (by decide)
            have n1 : ¬ nI N ≤ nI i := nI_ge hi (by omega)
            have eto : (nI p + 2 + 4 * nI i : Int32) = nI (p + 2 + 4 * i) := by rw [show (nI p + 2 : Int32) = nI (p + 2) from nI_add _ 2, show (4 : Int32) * nI i = nI (4 * i) from pk_mul 4 i, nI_add]
            rw [telF_s] at ih
            have tw : ∀ {K2 : (Nat → Int32) → Prop}, K2 (w4 (telF V f t p d fl i) (p + 2 + 4 * i) (enAt V f t d i) (wAt V f t d i).2 ((wAt V f t d i).1 - t)) → wp_X6_tellWord (telF V f t p d fl i) st' ln' en1 (nI i) (nI (p + 2 + 4 * i)) (nI t) K2 := fun hk => ok_tellWord (by omega) (wj i hi).1 (wj i hi).2 (hen i hi) (by omega) (by omega) (by omega) (by omega) (by omega) hk
            refine hL2 _ _ (br_f n1 ⟨vi, ?_⟩)
            rw [ci, hen i hi, eto, nI_1]
            intro J172 h172 J157 h157
            refine bs_c (fun z => ?_) (fun z => bs_c (fun y => ?_) (fun y => ?_))
            · rw [if_neg (fun z2 => z (ez.mpr z2.2))] at ih
              exact h157 (tw (h172 _ ih))
            · rw [if_pos ⟨y, ez.mp z⟩] at ih
              exact h172 _ ih
            · rw [if_neg (fun z2 => z2.1 y)] at ih
              exact h157 (tw (h172 _ ih))
        have := key2 0 (Nat.zero_le _)
        rw [nI_0] at this
        rw [eN]
        exact this
      · intro ar1 u1 en1 hen
        have wi := wAt_in (V := V) (f := f) (t := t) (d := d) (k := i) (by omega)
        have vi : vp_in (nI i) 255 := vp_in_nI (by omega) (by decide)
        have ci : (nI i).toNatClampNeg = i := nI_clamp (by omega)
        refine hL _ _ _ _ (br_f (nI_ge hi (by omega)) ⟨vi, vi, ?_⟩)
        rw [ci, (wj i hi).1, (wj i hi).2, nI_1]
        refine ok_packed hB (by omega) (Or.inr ⟨rfl, by omega⟩) (fun ar' u' => ok_entC hB dok ⟨vi, ih _ _ _ (fun j hj => ?_)⟩)
        by_cases e : j = i
        · subst e
          rw [pk_us]
          rfl
        · rw [pk_un e]
          exact hen j (by omega)
    exact key 0 (Nat.zero_le _) _ _ _ (fun j hj => absurd hj (Nat.not_lt_zero j))
  · rw [inMb_f (by unfold inM; omega)]
    exact bs_f rfl (h0 (fun z => q (by rw [eN]; exact z.2.2)) _ _ _ _ _ _ _ _ _ _ _ _)
