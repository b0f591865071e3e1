-- PURE 22: a READ ends by a key (written by gen_pm.py)
theorem sim_run {V t p d : Nat} {g1 : Nat → Int32} (hV : V < 9) (hB : Byt g1) (ht : t ≤ 4000) (hp : p ≤ 4000) (hd : d ≤ 4000) : ∃ r g, Byt g ∧
    (∀ {pa_letters : (Nat → Int32)} {pa_used : Int32} {di_separators : (Nat → Int32)} {di_entriesAt : Int32} {di_size : Int32} {di_entries : Int32} {pr_starts : (Nat → Int32)} {pr_lengths : (Nat → Int32)} {pr_entries : (Nat → Int32)} {pr_words : Int32} {pr_textFrom : Int32} {pr_textEnd : Int32} {K : Int32 → (Nat → Int32) → (Nat → Int32) → Int32 → (Nat → Int32) → Int32 → Int32 → Int32 → (Nat → Int32) → (Nat → Int32) → (Nat → Int32) → Int32 → Int32 → Int32 → Prop}, (∀ x1 x2 x3 x4 x5 x6 x7 x8 x9 x10 x11 x12, K r g x1 x2 x3 x4 x5 x6 x7 x8 x9 x10 x11 x12) → ((¬ nI p = 0) → wp_X6_run g1 (rwV V) (nI (upV V)) (nI (upV V + 1)) pa_letters pa_used (nV V) (nI (szV V)) di_separators di_entriesAt di_size di_entries (cntV V) pr_starts pr_lengths pr_entries pr_words pr_textFrom pr_textEnd (nI t) (nI p) (nI d) 0 (fun r_1 m x1 x2 x3 x4 x5 x6 x7 x8 x9 x10 x11 x12 => ((¬ r_1 = -3) → K 1 m x1 x2 x3 x4 x5 x6 x7 x8 x9 x10 x11 x12) ∧ ((r_1 = -3) → K (-3) m x1 x2 x3 x4 x5 x6 x7 x8 x9 x10 x11 x12))) ∧ ((nI p = 0) → K 1 g1 pa_letters pa_used di_separators di_entriesAt di_size di_entries pr_starts pr_lengths pr_entries pr_words pr_textFrom pr_textEnd)) ∧
    (∀ {lt : (Nat → Int32)} {lm : Int32} {pk : (Nat → Int32)} {me : Int32} {ms : Int32} {mm : Int32} {wf : (Nat → Int32)} {wz : (Nat → Int32)} {we : (Nat → Int32)} {K : Int32 → (Nat → Int32) → (Nat → Int32) → Int32 → (Nat → Int32) → Int32 → Int32 → Int32 → (Nat → Int32) → (Nat → Int32) → (Nat → Int32) → Prop}, (∀ y1 y2 y3 y4 y5 y6 y7 y8 y9, K r g y1 y2 y3 y4 y5 y6 y7 y8 y9) → ∀ J227 : Int32 → (Nat → Int32) → (Nat → Int32) → Int32 → (Nat → Int32) → Int32 → Int32 → Int32 → (Nat → Int32) → (Nat → Int32) → (Nat → Int32) → Prop, (∀ y m y1 y2 y3 y4 y5 y6 y7 y8 y9, (((¬ y = -3) → K 1 m y1 y2 y3 y4 y5 y6 y7 y8 y9) ∧ ((y = -3) → K (-3) m y1 y2 y3 y4 y5 y6 y7 y8 y9)) → J227 y m y1 y2 y3 y4 y5 y6 y7 y8 y9) → ((¬ nI p = 0) → wp_X10_parses (nI V) g1 lt lm pk me ms mm wf wz we (nI t) (nI p) (nI d) 0 (fun y m y1 y2 y3 y4 y5 y6 y7 y8 y9 => J227 y m y1 y2 y3 y4 y5 y6 y7 y8 y9)) ∧ ((nI p = 0) → J227 0 g1 lt lm pk me ms mm wf wz we)) := by
  have p0 : nI p = 0 ↔ p = 0 := nI_eq (b := 0) (by omega) (by decide)
  by_cases q : p = 0
  · exact ⟨1, g1, hB, fun hK => bs_f (p0.mpr q) (hK _ _ _ _ _ _ _ _ _ _ _ _), fun hK J h => bs_f (p0.mpr q) (h _ _ _ _ _ _ _ _ _ _ _ (bs_t (by decide) (hK _ _ _ _ _ _ _ _ _)))⟩
  · have nq : ¬ nI p = 0 := fun w => q (p0.mp w)
    by_cases pok : pOK V g1 t p d
    · have hlen : ¬ nI (WL V g1 t d).length = -3 := fun w => by
        have h1 := WL_len (V := V) (f := g1) (t := t) (d := d)
        have h2 := txOK_le pok.1
        have h3 : (nI (WL V g1 t d).length).toInt = ((WL V g1 t d).length : Int) := nI_toInt (by omega)
        rw [w] at h3
        have h4 : (-3 : Int32).toInt = -3 := rfl
        omega
      exact ⟨1, telF V g1 t p d 0 (mny V g1 t p d), telF_byt hB pok.2.1 _, fun hK => bs_t nq (ok_run hB ht hp hd (fun _ x1 x2 x3 x4 x5 x6 x7 x8 x9 x10 x11 x12 => bs_t hlen (hK _ _ _ _ _ _ _ _ _ _ _ _)) (fun w => absurd pok w)), fun hK J h => bs_t nq (ok_parses hV hB ht hp hd (fun _ y1 y2 y3 y4 y5 y6 y7 y8 y9 => h _ _ _ _ _ _ _ _ _ _ _ (bs_t hlen (hK _ _ _ _ _ _ _ _ _))) (fun w => absurd pok w))⟩
    · exact ⟨-3, g1, hB, fun hK => bs_t nq (ok_run hB ht hp hd (fun w => absurd w pok) (fun _ x1 x2 x3 x4 x5 x6 x7 x8 x9 x10 x11 x12 => bs_f rfl (hK _ _ _ _ _ _ _ _ _ _ _ _))), fun hK J h => bs_t nq (ok_parses hV hB ht hp hd (fun w => absurd w pok) (fun _ y1 y2 y3 y4 y5 y6 y7 y8 y9 => h _ _ _ _ _ _ _ _ _ _ _ (bs_f rfl (hK _ _ _ _ _ _ _ _ _))))⟩
theorem sim_ends {V d t p n k la E : Nat} {f cd cd' ll lcd ls ln ec : Nat → Int32} {a : Int32} (hV : V < 9) (hB : Byt f) (ht : t ≤ 4000) (hp : p ≤ 4000) (hd : d ≤ 4000) (hn : n ≤ 255) (h4 : t + 2 + n ≤ 4096) (hc : ∀ i, i < n → cd i = cd' i ∧ ∃ c, c < 256 ∧ cd i = nI c) (hR : RLn k la ll lcd ls ln) (hE : E + 256 < 2 ^ 30) : ∃ r g k2 la2 ll2 lcd2 ls2 ln2 ec2, Byt g ∧ RLn k2 la2 ll2 lcd2 ls2 ln2 ∧
    (∀ {pa_letters : (Nat → Int32)} {pa_used : Int32} {di_separators : (Nat → Int32)} {di_entriesAt : Int32} {di_size : Int32} {di_entries : Int32} {pr_starts : (Nat → Int32)} {pr_lengths : (Nat → Int32)} {pr_entries : (Nat → Int32)} {pr_words : Int32} {pr_textFrom : Int32} {pr_textEnd : Int32} {en op : Int32} {K : Int32 → Int32 → (Nat → Int32) → (Nat → Int32) → Int32 → (Nat → Int32) → Int32 → Int32 → Int32 → (Nat → Int32) → (Nat → Int32) → (Nat → Int32) → Int32 → Int32 → Int32 → Int32 → Int32 → Int32 → (Nat → Int32) → (Nat → Int32) → Int32 → (Nat → Int32) → Prop}, (∀ x1 x2 x3 x4 x5 x6 x7 x8 x9 x10 x11 x12, K r a g x1 x2 x3 x4 x5 x6 x7 x8 x9 x10 x11 x12 0 (nI k2) (nI la2) ll2 lcd2 (nI (E + n + 1)) ec2) → wp_X9_endByKey (nI V) (nI d) en f (rwV V) (nI (upV V)) (nI (upV V + 1)) pa_letters pa_used (nV V) (nI (szV V)) di_separators di_entriesAt di_size di_entries (cntV V) pr_starts pr_lengths pr_entries pr_words pr_textFrom pr_textEnd op (nI t) (nI p) (nI n) cd (nI k) (nI la) ll lcd (nI E) ec a K) ∧
    (∀ {lt : (Nat → Int32)} {lm : Int32} {pk : (Nat → Int32)} {me : Int32} {ms : Int32} {mm : Int32} {wf : (Nat → Int32)} {wz : (Nat → Int32)} {we : (Nat → Int32)} {en op : Int32} {K : Int32 → (Nat → Int32) → (Nat → Int32) → Int32 → (Nat → Int32) → Int32 → Int32 → Int32 → (Nat → Int32) → (Nat → Int32) → (Nat → Int32) → Int32 → Int32 → (Nat → Int32) → (Nat → Int32) → Int32 → (Nat → Int32) → Int32 → Prop}, (∀ y1 y2 y3 y4 y5 y6 y7 y8 y9, K r g y1 y2 y3 y4 y5 y6 y7 y8 y9 0 a ls2 ln2 (nI k2) ec2 (nI (E + n + 1))) → wp_X10_ends (nI V) f (nI d) lt lm pk me ms mm wf wz we op (nI t) (nI p) cd' (nI n) en ls ln (nI k) ec (nI E) a K) := by
  have hcc : ∀ i, i < n → cd i = cd' i := fun i hi => (hc i hi).1
  have eg : layF V f t n cd = layF V f t n cd' := layF_congr hcc
  have ee : ecF E ec cd n = ecF E ec cd' n := ecF_congr hcc
  obtain ⟨r, g, hg, rC, rM⟩ := sim_run (t := t) (p := p) (d := d) hV (layF_byt (V := V) (t := t) hB hn (fun i hi => (hc i hi).2)) ht hp hd
  obtain ⟨k2, la2, ll2, lcd2, ls2, ln2, hR2, kC, kM⟩ := sim_keep hR hn hc
  refine ⟨r, g, k2, la2, ll2, lcd2, ls2, ln2, upd (ecF E ec cd n) ((E + n) % 2000) 13, hg, hR2, ?_, ?_⟩
  · intro pa_letters pa_used di_separators di_entriesAt di_size di_entries pr_starts pr_lengths pr_entries pr_words pr_textFrom pr_textEnd en op K hK
    refine ok_layC hV hn h4 (fun i hi => (hc i hi).2) (kC _ (fun L hL => ?_))
    have key : ∀ i, i ≤ n → L (nI i) (nI (E + i)) (ecF E ec cd i) := by
      refine for_up (P := fun i => L (nI i) (nI (E + i)) (ecF E ec cd i)) ?_ (fun i hi ih => ?_)
      · exact hL _ _ _ (br_t (nI_le (Nat.le_refl _) (by omega)) (ok_ecC (by omega) (rC (K := fun r m x1 x2 x3 x4 x5 x6 x7 x8 x9 x10 x11 x12 => K r a m x1 x2 x3 x4 x5 x6 x7 x8 x9 x10 x11 x12 0 (nI k2) (nI la2) ll2 lcd2 (nI (E + n + 1)) (upd (ecF E ec cd n) ((E + n) % 2000) 13)) hK)))
      · refine hL _ _ _ (br_f (nI_ge hi (by omega)) (ok_code7 hi hn (ok_ecC (by omega) ?_)))
        rw [nI_1]
        exact ih
    exact key 0 (Nat.zero_le _)
  · intro lt lm pk me ms mm wf wz we en op K hK
    refine ok_layM hV hn h4 ?_
    rw [← eg]
    refine fun J157 h157 => kM J157 (h157 _ _ _ (fun L hL => ?_))
    have key : ∀ i, i ≤ n → L (nI i) (ecF E ec cd' i) (nI (E + i)) := by
      refine for_up (P := fun i => L (nI i) (ecF E ec cd' i) (nI (E + i))) ?_ (fun i hi ih => ?_)
      · refine hL _ _ _ (br_t (nI_le (Nat.le_refl _) (by omega)) (ok_ecM (by omega) ?_))
        rw [← ee]
        exact rM (K := fun r m y1 y2 y3 y4 y5 y6 y7 y8 y9 => K r m y1 y2 y3 y4 y5 y6 y7 y8 y9 0 a ls2 ln2 (nI k2) (upd (ecF E ec cd n) ((E + n) % 2000) 13) (nI (E + n + 1))) hK
      · refine hL _ _ _ (br_f (nI_ge hi (by omega)) ⟨vp_in_nI (by omega) (by decide), ok_ecM (by omega) ?_⟩)
        rw [nI_1, nI_clamp (by omega)]
        exact ih
    exact key 0 (Nat.zero_le _)
