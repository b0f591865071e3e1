-- PURE 10: the text and its words, the program's way
noncomputable def sepB (f : Nat → Int32) (d c : Nat) : Bool := by classical exact decide (isSep f d c)
theorem sepB_t {f : Nat → Int32} {d c : Nat} : sepB f d c = true ↔ isSep f d c := by unfold sepB; exact @decide_eq_true_iff (isSep f d c) (Classical.propDecidable _)
def cntV (V : Nat) : Int32 := if V ≤ 4 then 0 else 1
def zE (f : Nat → Int32) : Nat → Nat → Nat
  | 0, i => i
  | m + 1, i => if gv f i = 0 then i else zE f m (i + 1)
theorem zE_s (f : Nat → Int32) (m i : Nat) : zE f (m + 1) i = if gv f i = 0 then i else zE f m (i + 1) := rfl
theorem zE_le (f : Nat → Int32) : ∀ m i, i ≤ zE f m i ∧ zE f m i ≤ i + m := by
  intro m
  induction m with
  | zero => intro i; exact ⟨Nat.le_refl _, Nat.le_refl _⟩
  | succ m ih =>
    intro i
    rw [zE_s]
    have := ih (i + 1)
    split <;> omega
def txF (V t : Nat) : Nat := if V ≤ 4 then t + 1 else t + 2
def txE (V : Nat) (f : Nat → Int32) (t : Nat) : Nat := if V ≤ 4 then zE f (4096 - (t + 1)) (t + 1) else t + 2 + gv f (t + 1)
def txOK (V : Nat) (f : Nat → Int32) (t : Nat) : Prop := if V ≤ 4 then txE V f t < 4096 else txE V f t ≤ 4096
theorem txFE {V : Nat} {f : Nat → Int32} {t : Nat} : txF V t ≤ txE V f t := by
  unfold txF txE
  have := (zE_le f (4096 - (t + 1)) (t + 1)).1
  split <;> omega
theorem txOK_le {V : Nat} {f : Nat → Int32} {t : Nat} (h : txOK V f t) : txE V f t ≤ 4096 := by
  unfold txOK at h
  split at h <;> omega
theorem ok_findText {V t : Nat} {f : Nat → Int32} {x y : Int32} {K : Int32 → Int32 → Int32 → Prop} (hB : Byt f) (ht : t ≤ 4000) (h1 : txOK V f t → K 1 (nI (txF V t)) (nI (txE V f t))) (h0 : ¬ txOK V f t → ∀ a b, K 0 a b) : wp_X6_findText f (cntV V) x y (nI t) K := by
  by_cases q : V ≤ 4
  · have e1 : cntV V = 0 := if_pos q
    have e2 : txF V t = t + 1 := if_pos q
    have e3 : txE V f t = zE f (4096 - (t + 1)) (t + 1) := if_pos q
    have e4 : txOK V f t = (txE V f t < 4096) := if_pos q
    rw [e1]
    refine br_t rfl (nm_r (nI_1 t) ?_)
    intro L hL
    have key : ∀ m i, i + m = 4096 → zE f m i = txE V f t → L (nI i) := by
      intro m
      induction m with
      | zero =>
        intro i hi he
        have hi4 : i = 4096 := by omega
        subst hi4
        have hE : txE V f t = 4096 := he.symm
        have hb : ¬ txOK V f t := by rw [e4]; omega
        exact hL _ (fun J hJ => br_t (by decide) (hJ (br_t (by decide) (h0 hb _ _))))
      | succ m ih =>
        intro i hi he
        have hi4 : i < 4096 := by omega
        rw [zE_s] at he
        have hg := gv_ok hB i
        have n1 : ¬ 4096 ≤ nI i := nI_ge (b := 4096) hi4 (by decide)
        have z : nI (gv f i) = 0 ↔ gv f i = 0 := nI_eq (b := 0) (by omega) (by decide)
        refine hL _ (fun J hJ => br_f n1 (ok_octet hi4 ?_))
        rw [hg.2]
        refine br_c (fun w => hJ (br_f n1 ?_)) (fun w => nm_r (nI_1 i) (ih (i + 1) ?_ ?_))
        · rw [if_pos (z.mp w)] at he
          have hok : txOK V f t := by rw [e4, ← he]; exact hi4
          have := h1 hok
          rw [e2, ← he] at this
          exact this
        · rw [← hi, Nat.add_assoc, Nat.add_comm 1 m]
        · rw [if_neg (fun z2 => w (z.mpr z2))] at he
          exact he
    exact key (4096 - (t + 1)) (t + 1) (by omega) e3.symm
  · have e1 : cntV V = 1 := if_neg q
    have e2 : txF V t = t + 2 := if_neg q
    have e3 : txE V f t = t + 2 + gv f (t + 1) := if_neg q
    have e4 : txOK V f t = (txE V f t ≤ 4096) := if_neg q
    have hg := gv_ok hB (t + 1)
    rw [e1]
    refine br_f (by decide) (nm_r (e' := nI (t + 2)) (nI_add t 2) ?_)
    rw [nI_1]
    refine ok_octet (by omega) ?_
    rw [hg.2]
    refine nm_r (nI_add _ _) ?_
    rw [show nI (t + 2 + gv f (t + 1)) - nI (t + 2) = nI (gv f (t + 1)) from by rw [pk_sub (by omega)]; congr 1; omega]
    refine ok_holds (by omega) ?_
    rw [nI_toInt (by omega)]
    by_cases w : txE V f t ≤ 4096
    · rw [inMb_t (by unfold inM; omega)]
      refine ⟨Or.inr rfl, ?_⟩
      have := h1 (by rw [e4]; exact w)
      rw [e2, e3] at this
      exact this
    · rw [inMb_f (by unfold inM; omega)]
      exact ⟨Or.inl rfl, h0 (by rw [e4]; exact w) _ _⟩
def wd (s l : Nat) : List (Nat × Nat) := if l = 0 then [] else [(s, l)]
/-- the words from place i on, one having begun at b -/
noncomputable def wds (f : Nat → Int32) (d : Nat) : Nat → Nat → Nat → List (Nat × Nat)
  | 0, i, b => wd b (i - b)
  | m + 1, i, b => if sepB f d (gv f i) = true then wd b (i - b) ++ ((i, 1) :: wds f d m (i + 1) (i + 1)) else if gv f i = 32 then wd b (i - b) ++ wds f d m (i + 1) (i + 1) else wds f d m (i + 1) b
theorem wds_s (f : Nat → Int32) (d m i b : Nat) : wds f d (m + 1) i b = if sepB f d (gv f i) = true then wd b (i - b) ++ ((i, 1) :: wds f d m (i + 1) (i + 1)) else if gv f i = 32 then wd b (i - b) ++ wds f d m (i + 1) (i + 1) else wds f d m (i + 1) b := rfl
def Wst (cap : Nat) (ws : List (Nat × Nat)) (st ln : Nat → Int32) : Prop := ∀ j, j < ws.length → j < cap → st j = nI (ws.getD j (0, 0)).1 ∧ ln j = nI (ws.getD j (0, 0)).2
theorem Wst.nil {cap : Nat} {st ln : Nat → Int32} : Wst cap [] st ln := fun j h => absurd h (Nat.not_lt_zero j)
theorem gD_l {l m : List (Nat × Nat)} {j : Nat} {d : Nat × Nat} (h : j < l.length) : (l ++ m).getD j d = l.getD j d := by
  rw [List.getD_eq_getElem?_getD, List.getD_eq_getElem?_getD, List.getElem?_append_left h]
theorem gD_e {l : List (Nat × Nat)} {x d : Nat × Nat} : (l ++ [x]).getD l.length d = x := by
  rw [List.getD_eq_getElem?_getD, List.getElem?_append_right (Nat.le_refl _), Nat.sub_self]
  rfl
theorem Wst.add {cap s l : Nat} {ws : List (Nat × Nat)} {st ln : Nat → Int32} (h : Wst cap ws st ln) : Wst cap (ws ++ [(s, l)]) (upd st ws.length (nI s)) (upd ln ws.length (nI l)) := by
  intro j h1 h2
  by_cases e : j = ws.length
  · subst e
    rw [pk_us, pk_us, gD_e]
    exact ⟨rfl, rfl⟩
  · have : j < ws.length := by simp at h1; omega
    rw [pk_un e, pk_un e, gD_l this]
    exact h j this h2
theorem Wst.full {cap : Nat} {ws m : List (Nat × Nat)} {st ln : Nat → Int32} (h : Wst cap ws st ln) (hc : cap ≤ ws.length) : Wst cap (ws ++ m) st ln := by
  intro j h1 h2
  rw [gD_l (by omega)]
  exact h j (by omega) h2
theorem ok_addWord {s l : Nat} {ws : List (Nat × Nat)} {st ln : Nat → Int32} {K : (Nat → Int32) → (Nat → Int32) → Int32 → Prop} (hl : l < 2 ^ 31) (hw : ws.length < 2 ^ 30) (h : Wst 255 ws st ln) (hK : ∀ st' ln', Wst 255 (ws ++ wd s l) st' ln' → K st' ln' (nI (ws ++ wd s l).length)) : wp_X6_addWord st ln (nI ws.length) (nI s) (nI l) K := by
  by_cases q : l = 0
  · have e : wd s l = [] := if_pos q
    rw [e, List.append_nil] at hK
    exact br_f (nI_nlt (b := l) (a := 0) (by omega) (by omega)) (hK _ _ h)
  · have e : wd s l = [(s, l)] := if_neg q
    rw [e] at hK
    have hlen : (ws ++ [(s, l)]).length = ws.length + 1 := by simp
    rw [hlen] at hK
    have p1 : ¬ nI ws.length < 0 := nI_pos (by omega)
    have cl : (nI ws.length).toNatClampNeg = ws.length := nI_clamp (by omega)
    refine br_t (nI_lt (a := 0) (by omega) hl) ?_
    rw [cl]
    by_cases q2 : 255 ≤ ws.length
    · have p2 : 255 ≤ nI ws.length := nI_le (a := 255) q2 (by omega)
      intro J hJ
      exact br_f p1 (br_t p2 (hJ _ _ (nm_r (nI_1 _) (hK _ _ (h.full q2)))))
    · have p2 : ¬ 255 ≤ nI ws.length := nI_ge (b := 255) (by omega) (by decide)
      have p3 : vp_in (nI ws.length) 255 := vp_in_nI (by omega) (by decide)
      intro J hJ
      exact br_f p1 (br_f p2 ⟨p3, p3, hJ _ _ (nm_r (nI_1 _) (hK _ _ h.add))⟩)
theorem ok_split {d a e : Nat} {f sp st ln : Nat → Int32} {w : Int32} {K : (Nat → Int32) → (Nat → Int32) → Int32 → Prop} (hB : Byt f) (hs : SepOK f d sp) (hae : a ≤ e) (he : e ≤ 4096) (h : ∀ st' ln', Wst 255 (wds f d (e - a) a a) st' ln' → K st' ln' (nI (wds f d (e - a) a a).length)) : wp_X6_splitText f sp st ln w (nI a) (nI e) K := by
  intro L hL
  have key : ∀ m i b (acc : List (Nat × Nat)) st ln, i + m = e → b ≤ i → acc.length ≤ 2 * i → Wst 255 acc st ln → acc ++ wds f d m i b = wds f d (e - a) a a → L (nI b) (nI i) st ln (nI acc.length) := by
    intro m
    induction m with
    | zero =>
      intro i b acc st ln hi hb hn hw hx
      have hi2 : i = e := by omega
      subst hi2
      refine hL _ _ _ _ _ (br_t (nI_le (Nat.le_refl _) (by omega)) ?_)
      rw [pk_sub hb]
      refine ok_addWord (by omega) (by omega) hw (fun st' ln' h' => ?_)
      have hx2 : acc ++ wd b (i - b) = wds f d (i - a) a a := hx
      rw [hx2] at h' ⊢
      exact h st' ln' h'
    | succ m ih =>
      intro i b acc st ln hi hb hn hw hx
      have hi4 : i < 4096 := by omega
      have hg := gv_ok hB i
      rw [wds_s] at hx
      have n1 : ¬ nI e ≤ nI i := nI_ge (by omega) (by omega)
      have e32 : nI (gv f i) = 32 ↔ gv f i = 32 := nI_eq (b := 32) (by omega) (by decide)
      have f1 : i - b < 2 ^ 31 := by omega
      have f2 : acc.length < 2 ^ 30 := by omega
      have f3 : i + 1 + m = e := by omega
      have hwl : ∀ x, (wd b x).length ≤ 1 := fun x => by unfold wd; split <;> simp
      have f4 : (acc ++ wd b (i - b)).length < 2 ^ 30 := by rw [List.length_append]; have := hwl (i - b); omega
      have f5 : (acc ++ wd b (i - b) ++ wd i 1).length ≤ 2 * (i + 1) := by
        rw [List.length_append, List.length_append]; have := hwl (i - b); have : (wd i 1).length = 1 := rfl; omega
      have f6 : (acc ++ wd b (i - b)).length ≤ 2 * (i + 1) := by rw [List.length_append]; have := hwl (i - b); omega
      have f7 : acc.length ≤ 2 * (i + 1) := by omega
      have f8 : b ≤ i + 1 := by omega
      refine hL _ _ _ _ _ (br_f n1 (ok_octet hi4 ?_))
      rw [hg.2, pk_sub hb, nI_1]
      refine ok_separates hs hg.1 (fun s1 => ?_) (fun s0 => ?_)
      · rw [if_pos (sepB_t.mpr s1)] at hx
        intro J65 h65 J53 h53
        refine bs_t (by decide) (h53 (ok_addWord f1 f2 hw (fun st1 ln1 h1 => nm_e (h65 _ _ _ _ (fun J76 h76 => br_f (by decide) (ok_addWord (s := i) (l := 1) (by decide) f4 h1 (fun st2 ln2 h2 => h76 _ _ _ (ih (i + 1) (i + 1) _ st2 ln2 f3 (Nat.le_refl _) f5 h2 ?_))))))))
        rw [← hx, List.append_assoc, List.append_assoc]
        rfl
      · rw [if_neg (fun z => s0 (sepB_t.mp z))] at hx
        intro J65 h65 J53 h53
        refine bs_f rfl (bs_c (fun z => ?_) (fun z => ?_))
        · rw [if_neg (fun z2 => z (e32.mpr z2))] at hx
          exact h65 _ _ _ _ (fun J76 h76 => br_t rfl (h76 _ _ _ (ih (i + 1) b acc st ln f3 f8 f7 hw hx)))
        · rw [if_pos (e32.mp z)] at hx
          refine h53 (ok_addWord f1 f2 hw (fun st1 ln1 h1 => nm_e (h65 _ _ _ _ (fun J76 h76 => br_t rfl (h76 _ _ _ (ih (i + 1) (i + 1) _ st1 ln1 f3 (Nat.le_refl _) f6 h1 ?_))))))
          rw [← hx, List.append_assoc]
  exact key (e - a) a a [] st ln (by omega) (Nat.le_refl _) (Nat.zero_le _) Wst.nil (List.nil_append _)
