-- PURE 3: tables, told, typed, echo, script, kept, timed
theorem ok_isStart {a : Int32} {K : Int32 → Prop} (ht : 0 ≤ a.toInt → a.toInt ≤ 4000 → K 1) (hf : (a.toInt < 0 ∨ 4000 < a.toInt) → K 0) : wp_X9_isStart a K := by
  have z : (0 : Int32).toInt = 0 := rfl
  have y : (4000 : Int32).toInt = 4000 := rfl
  refine br_c (fun c => hf (Or.inl (by rw [i_lt] at c; omega))) (fun c => br_c (fun d => hf (Or.inr (by rw [i_lt] at d; omega))) (fun d => ht ?_ ?_))
  · rw [i_lt] at c; omega
  · rw [i_lt] at d; omega
theorem ok_isCode {a : Int32} {K : Int32 → Prop} (ht : 0 ≤ a.toInt → a.toInt ≤ 255 → K 1) (hf : (a.toInt < 0 ∨ 255 < a.toInt) → K 0) : wp_X9_isCode a K := by
  have z : (0 : Int32).toInt = 0 := rfl
  have y : (255 : Int32).toInt = 255 := rfl
  refine br_c (fun c => hf (Or.inl (by rw [i_lt] at c; omega))) (fun c => br_c (fun d => hf (Or.inr (by rw [i_lt] at d; omega))) (fun d => ht ?_ ?_))
  · rw [i_lt] at c; omega
  · rw [i_lt] at d; omega
theorem ok_inI {x a b : Int32} {A B : Int} (hA : a.toInt = A) (hB : b.toInt = B) {K : Int32 → Prop} (ht : A ≤ x.toInt → x.toInt ≤ B → K 1) (hf : (x.toInt < A ∨ B < x.toInt) → K 0) : wp_X10_in x a b K :=
  ok_in (fun c d => ht (by rw [i_le] at c; omega) (by rw [i_le] at d; omega)) (fun c => hf (c.imp (fun c => by rw [i_lt] at c; omega) (fun c => by rw [i_lt] at c; omega)))
theorem sim_tables {d t a b : Int32} {K : Int32 → Int32 → Int32 → Int32 → Int32 → Int32 → Prop} (h0 : ∀ r, K r d t r d t) (h1 : 0 ≤ a.toInt → a.toInt ≤ 4000 → 0 ≤ b.toInt → b.toInt ≤ 4000 → K 1 a b 1 a b) : wp_X9_tables d t a b (fun r x y => wp_X10_tables d t a b (fun r2 x2 y2 => K r x y r2 x2 y2)) := by
  refine ok_isStart (fun c1 c2 => br_f (by decide) (ok_isStart (fun d1 d2 => bs_t (by decide) ?_) (fun d1 => bs_f rfl ?_))) (fun c1 => br_t rfl ?_)
  · exact ok_inI (A := 0) (B := 4000) rfl rfl (fun _ _ => br_f (by decide) (ok_inI (A := 0) (B := 4000) rfl rfl (fun _ _ => bs_t (by decide) (h1 c1 c2 d1 d2)) (fun q => by omega))) (fun q => by omega)
  · exact ok_inI (A := 0) (B := 4000) rfl rfl (fun _ _ => br_f (by decide) (ok_inI (A := 0) (B := 4000) rfl rfl (fun _ _ => by omega) (fun q => bs_f rfl (h0 _)))) (fun q => by omega)
  · exact ok_inI (A := 0) (B := 4000) rfl rfl (fun _ _ => by omega) (fun q => br_t rfl (h0 _))
theorem sim_told {en op li co ca ln ec sc a : Int32} {K : Int32 → Int32 → Prop} (h : ∀ r, K r r) : wp_X9_told en op li co ca ln ec sc a (fun r => wp_X10_told op li co ca en ln ec sc a (fun r2 => K r r2)) := by
  have op2 : ∀ {x : Int32} {w : Int32 → Prop}, (∀ r, (∀ r2, r2 = r → K r r2) → w r) → (((op = 0) → w 0) ∧ ((¬ op = 0) → w x)) := fun hw => br_c (fun _ => hw _ (fun r2 e => by rw [e]; exact h _)) (fun _ => hw _ (fun r2 e => by rw [e]; exact h _))
  refine br_c (fun c0 => ?_) (fun c0 => br_c (fun c1 => ?_) (fun c1 => br_c (fun c2 => ?_) (fun c2 => br_c (fun c3 => ?_) (fun c3 => br_c (fun c4 => ?_) (fun c4 => br_c (fun c5 => ?_) (fun c5 => br_c (fun c6 => ?_) (fun c6 => br_c (fun c7 => ?_) (fun c7 => ?_))))))))
  · exact br_c (fun q => br_t c0 (br_t q (h _))) (fun q => br_t c0 (br_f q (h _)))
  · exact br_c (fun q => br_f c0 (br_t c1 (br_t q (h _)))) (fun q => br_f c0 (br_t c1 (br_f q (h _))))
  · exact br_c (fun q => br_f c0 (br_f c1 (br_t c2 (br_t q (h _))))) (fun q => br_f c0 (br_f c1 (br_t c2 (br_f q (h _)))))
  · exact br_f c0 (br_f c1 (br_f c2 (br_t c3 (h _))))
  · exact br_f c0 (br_f c1 (br_f c2 (br_f c3 (br_t c4 (h _)))))
  · exact br_f c0 (br_f c1 (br_f c2 (br_f c3 (br_f c4 (br_t c5 (h _))))))
  · exact br_f c0 (br_f c1 (br_f c2 (br_f c3 (br_f c4 (br_f c5 (br_t c6 (h _)))))))
  · exact br_c (fun q => br_f c0 (br_f c1 (br_f c2 (br_f c3 (br_f c4 (br_f c5 (br_f c6 (br_t c7 (br_t q (h _)))))))))) (fun q => br_f c0 (br_f c1 (br_f c2 (br_f c3 (br_f c4 (br_f c5 (br_f c6 (br_t c7 (br_f q (h _))))))))))
  · exact br_f c0 (br_f c1 (br_f c2 (br_f c3 (br_f c4 (br_f c5 (br_f c6 (br_f c7 (h _))))))))
theorem m1_toInt {n : Nat} (h : n < 2 ^ 30) : (nI n - 1).toInt = (n : Int) - 1 := pk_sub_toInt (b := 1) h (by decide)
theorem ok_code7 {n j : Nat} {cd : Nat → Int32} {K : Int32 → Prop} (hj : j < n) (hn : n ≤ 255) (h : K (cd j)) : wp_X7_code (nI n) cd (nI j) K := by
  refine br_f (nI_pos (by omega)) (br_f (nI_ge hj (by omega)) (br_f (nI_ge (b := 255) (by omega) (by decide)) ⟨vp_in_nI (by omega) (by decide), ?_⟩))
  rw [nI_clamp (by omega)]
  exact h
theorem sim_typed {op : Int32} {n : Nat} {c1 c2 : Nat → Int32} {a : Int32} {K : Int32 → Int32 → Prop} (hn : n ≤ 255) (hc : ∀ i, i < n → c1 i = c2 i) (h : ∀ r, K r r) : wp_X9_typed op (nI n) c1 a (fun r => wp_X10_typed op c2 (nI n) a (fun r2 => K r r2)) := by
  have z : (0 : Int32).toInt = 0 := rfl
  have en : (nI n).toInt = n := nI_toInt (by omega)
  have bad : ¬ op = 0 → (a.toInt < 0 ∨ (n : Int) ≤ a.toInt) → wp_X10_typed op c2 (nI n) a (fun r2 => K (-2) r2) := fun q c => bs_t q (ok_inI (A := 0) (B := (n : Int) - 1) rfl (m1_toInt (by omega)) (fun _ _ => by omega) (fun _ => br_t rfl (h _)))
  refine bs_c (fun q => br_c (fun c => bad q (Or.inl (by rw [i_lt] at c; omega))) (fun c => br_c (fun d => bad q (Or.inr (by rw [i_le] at d; omega))) (fun d => ?_))) (fun q => bs_f q (h _))
  rw [i_lt] at c
  rw [i_le] at d
  obtain ⟨j, hj⟩ : ∃ j : Nat, j = a.toInt.toNat := ⟨_, rfl⟩
  have ea : a = nI j := by rw [hj]; exact i_nI (by omega)
  have hjn : j < n := by omega
  rw [ea]
  refine ok_code7 hjn hn ?_
  refine bs_t q (ok_inI (A := 0) (B := (n : Int) - 1) rfl (m1_toInt (by omega)) (fun _ _ => br_f (by decide) ⟨vp_in_nI (by omega) (by decide), ?_⟩) (fun w => by rw [nI_toInt (by omega)] at w; omega))
  rw [nI_clamp (by omega), hc j hjn]
  exact h _
theorem rem_300 {a : Nat} (h : a < 2 ^ 31) : nI a - nI a / 300 * 300 = nI (a % 300) := pk_rem (d := 300) h (by decide) (by decide)
theorem rem_2000 {a : Nat} (h : a < 2 ^ 31) : nI a - nI a / 2000 * 2000 = nI (a % 2000) := pk_rem (d := 2000) h (by decide) (by decide)
theorem rem_8 {a : Nat} (h : a < 2 ^ 31) : nI a - nI a / 8 * 8 = nI (a % 8) := pk_rem (d := 8) h (by decide) (by decide)
theorem sim_echo {n : Nat} {cd : Nat → Int32} {a : Int32} {K : Int32 → Int32 → Prop} (hn : n < 2 ^ 29) (h : ∀ r, K r r) : wp_X9_echo (nI n) cd a (fun r => wp_X10_echo cd (nI n) a (fun r2 => K r r2)) := by
  have z : (0 : Int32).toInt = 0 := rfl
  have en : (nI n).toInt = n := nI_toInt (by omega)
  have e2 : (nI n - 2000).toInt = (n : Int) - 2000 := pk_sub_toInt (b := 2000) (by omega) (by decide)
  have bad : (a.toInt < 0 ∨ (n : Int) ≤ a.toInt ∨ a.toInt < (n : Int) - 2000) → wp_X10_echo cd (nI n) a (fun r2 => K (-2) r2) := fun c => ok_inI (A := 0) (B := (n : Int) - 1) rfl (m1_toInt (by omega)) (fun _ _ => br_f (by decide) (br_t (by rw [i_lt, e2]; omega) (h _))) (fun _ => br_t rfl (h _))
  refine br_c (fun c => br_t rfl (bad (Or.inl (by rw [i_lt] at c; omega)))) (fun c => br_c (fun d => br_t rfl (bad (Or.inr (Or.inl (by rw [i_le] at d; omega))))) (fun d => br_c (fun e => br_t rfl (bad (Or.inr (Or.inr (by rw [i_lt, e2] at e; omega))))) (fun e => br_f (by decide) ?_)))
  rw [i_lt] at c e
  rw [i_le] at d
  rw [e2] at e
  obtain ⟨j, hj⟩ : ∃ j : Nat, j = a.toInt.toNat := ⟨_, rfl⟩
  have ea : a = nI j := by rw [hj]; exact i_nI (by omega)
  have hm : j % 2000 < 2000 := Nat.mod_lt _ (by decide)
  have ej : (nI j).toInt = j := nI_toInt (by omega)
  rw [ea]
  refine nm_r (rem_2000 (by omega)) (br_f (nI_pos (by omega)) (br_f (nI_ge (b := 2000) hm (by decide)) ⟨vp_in_nI hm (by decide), ?_⟩))
  refine ok_inI (A := 0) (B := (n : Int) - 1) rfl (m1_toInt (by omega)) (fun _ _ => br_f (by decide) (br_f (by rw [i_lt, e2, ej]; omega) ?_)) (fun w => by rw [ej] at w; omega)
  rw [rem_2000 (by omega)]
  exact ⟨vp_in_nI hm (by decide), h _⟩
/-- the script: the program keeps a ring, the reference a row -/
def RScr (n fi : Nat) (cc mk : Nat → Int32) : Prop := n ≤ 300 ∧ fi < 300 ∧ (∀ i, i < n → cc ((fi + i) % 300) = mk i) ∧ ∀ i, i < n → ∃ c, c < 256 ∧ mk i = nI c
theorem sim_script {n fi : Nat} {cc mk : Nat → Int32} {a : Int32} {K : Int32 → Int32 → (Nat → Int32) → Int32 → (Nat → Int32) → Int32 → Prop} (hR : RScr n fi cc mk) (h : ∀ r n' cc' mk', RScr n' fi cc' mk' → K r (nI n') cc' r mk' (nI n')) : wp_X9_script (nI n) (nI fi) cc a (fun r x y => wp_X10_script mk (nI n) a (fun r2 x2 y2 => K r x y r2 x2 y2)) := by
  obtain ⟨hn, hf, h1, h2⟩ := id hR
  refine ok_isCode (fun c1 c2 => bs_t (by decide) ?_) (fun c => bs_f rfl (ok_inI (A := 0) (B := 255) rfl rfl (fun _ _ => by omega) (fun _ => bs_f rfl (h _ _ _ _ hR))))
  obtain ⟨j, hj⟩ : ∃ j : Nat, j = a.toInt.toNat := ⟨_, rfl⟩
  have ea : a = nI j := by rw [hj]; exact i_nI (by omega)
  have inn : ∀ {w : Int32 → Prop}, w 1 → wp_X10_in a 0 255 w := fun hw => ok_inI (A := 0) (B := 255) rfl rfl (fun _ _ => hw) (fun q => by omega)
  have hm : (fi + n) % 300 < 300 := Nat.mod_lt _ (by decide)
  refine nm_r (e' := nI ((fi + n) % 300)) (by rw [nI_add]; exact rem_300 (by omega)) ?_
  by_cases q : n = 300
  · refine br_t (nI_le (a := 300) (by omega) (by omega)) (br_t rfl (inn (bs_t (by decide) (bs_f (by rw [q]; rfl) ?_))))
    exact h _ _ _ _ hR
  · refine br_f (nI_ge (b := 300) (by omega) (by decide)) (br_f (nI_pos (by omega)) (br_t (nI_lt (b := 300) hm (by decide)) ⟨vp_in_nI hm (by decide), nm_r (nI_1 n) (br_f (by decide) (inn (bs_t (by decide) (bs_t ?_ ⟨vp_in_nI (by omega) (by decide), nm_r (nI_1 n) ?_⟩))))⟩))
    · exact fun w => q ((nI_eq (b := 300) (by omega) (by decide)).mp w)
    · rw [nI_clamp (by omega), nI_clamp (by omega)]
      refine h _ _ _ _ ⟨by omega, hf, fun i hi => ?_, fun i hi => ?_⟩
      · by_cases e : i = n
        · subst e
          rw [pk_us, pk_us]
        · rw [pk_un e, pk_un (fun w => by omega), h1 i (by omega)]
      · by_cases e : i = n
        · subst e
          rw [pk_us]
          exact ⟨j, by omega, ea⟩
        · rw [pk_un e]
          exact h2 i (by omega)
