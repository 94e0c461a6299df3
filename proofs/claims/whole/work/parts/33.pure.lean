/-! the two sides, function by function -/
theorem upd_same (f : A32) (k : Nat) (x : Int32) : upd f k x k = x := by unfold upd; rw [if_pos rfl]
theorem upd_other (f : A32) {k j : Nat} (x : Int32) (h : ¬ j = k) : upd f k x j = f j := by unfold upd; rw [if_neg h]
theorem upd_id (f : A32) {k : Nat} {x : Int32} (h : f k = x) : upd f k x = f := by
  funext j
  by_cases e : j = k
  · rw [e, upd_same, h]
  · rw [upd_other f x e]
theorem q_10 : ¬ (1 : Int32) = 0 := by decide
theorem q_sub {a b : Nat} (h : b ≤ a) : nI a - nI b = nI (a - b) := by
  have e : nI a = nI (a - b) + nI b := by rw [nI_add, Nat.sub_add_cancel h]
  rw [e]; exact Int32.add_sub_cancel _ _
theorem q_neg (x y : Int32) : x - y = 0 - (y - x) := by rw [Int32.zero_sub, Int32.neg_sub]
theorem q_abs1 : ∀ v, v < 360 → F_abs (nI v) = nI v := by decide +kernel
theorem q_abs2 : ∀ v, v < 360 → 0 < v → F_abs (0 - nI v) = nI v := by decide +kernel
theorem q_way : ∀ v, v < 360 → F_max (12 - F_min (nI v) (360 - nI v)) 0 = (if 12 - (if nI v ≤ 180 then nI v else 360 - nI v) ≤ 0 then 0 else 12 - (if nI v ≤ 180 then nI v else 360 - nI v)) := by decide +kernel
theorem q_off {c d : Nat} (hc : c < 360) (hd : d < 360) : ∃ v, v < 360 ∧ F_abs (nI c - nI d) = nI v ∧ G_off (nI c) (nI d) = nI v := by
  unfold G_off
  by_cases h : d ≤ c
  · refine ⟨c - d, by omega, ?_, ?_⟩
    · rw [q_sub h]; exact q_abs1 _ (by omega)
    · rw [if_pos (nI_le h (by omega))]; exact q_sub h
  · refine ⟨d - c, by omega, ?_, ?_⟩
    · rw [q_neg, q_sub (by omega)]; exact q_abs2 _ (by omega) (by omega)
    · rw [if_neg (fun q => h ((nI_leI (by omega) (by omega)).mp q))]; exact q_sub (by omega)
theorem q_wayw (w : Int32) {c d : Nat} (hc : c < 360) (hd : d < 360) : w * F_way (nI c) (nI d) = if 12 - G_apart (nI c) (nI d) ≤ 0 then 0 else w * (12 - G_apart (nI c) (nI d)) := by
  obtain ⟨v, hv, e1, e2⟩ := q_off hc hd
  unfold F_way G_apart
  rw [e1, e2, q_way v hv]
  generalize 12 - (if nI v ≤ 180 then nI v else 360 - nI v) = X
  by_cases h : X ≤ 0
  · rw [if_pos h, if_pos h]; exact Int32.mul_zero
  · rw [if_neg h, if_neg h]
theorem q_harm (bd st sl : A32) {i j c d : Nat} (w : Int32) (hc : c < 360) (hd : d < 360) (e : sl j = nI d) : F_harm bd st sl i (nI c) w j = G_harm bd st sl i (nI c) w j := by
  have h10 := q_10
  unfold F_harm G_harm F_lapsed
  by_cases h1 : i = j
  · rw [if_pos h1, if_pos h1]
  · rw [if_neg h1, if_neg h1]
    by_cases h2 : bd i = bd j
    · rw [if_pos h2, if_pos h2]
      by_cases h3 : st i = 4
      · simp only [h3, h10, ↓reduceIte]
      · by_cases h4 : st j = 4
        · simp only [h3, h4, h10, ↓reduceIte]
        · simp only [h3, h4, ↓reduceIte]
          rw [e]; exact q_wayw w hc hd
    · rw [if_neg h2, if_neg h2]
theorem q_harmTo {bd st sl pw : A32} {n i j : Nat} (hsl : ∀ i, i < n → ∃ c, c < 360 ∧ sl i = nI c) (hi : i < n) (hj : j < n) : F_harmTo bd st sl pw i j = G_harmOf bd st sl pw i j := by
  obtain ⟨c, hc, e1⟩ := hsl i hi
  obtain ⟨d, hd, e2⟩ := hsl j hj
  unfold F_harmTo G_harmOf
  rw [e1]
  exact q_harm bd st sl (pw i) hc hd e2
theorem q_harm0 {bd st sl pw : A32} {i k : Nat} (h : st i = 4 ∨ st k = 4) : G_harmOf bd st sl pw i k = 0 := by
  unfold G_harmOf G_harm
  by_cases h1 : i = k
  · rw [if_pos h1]
  · rw [if_neg h1]
    by_cases h2 : bd i = bd k
    · rw [if_pos h2]
      by_cases h3 : st i = 4
      · rw [if_pos h3]
      · rw [if_neg h3, if_pos (h.resolve_left h3)]
    · rw [if_neg h2]
theorem q_over {bd st sl pw dt lm ag : A32} {n i k : Nat} (hsl : ∀ i, i < n → ∃ c, c < 360 ∧ sl i = nI c) (hL : R_lim st lm ag n) (hi : i < n) (hk : k < n) : F_over bd st sl pw dt lm i k = if G_ahead dt st k i = 0 then 0 else if G_harmOf bd st sl pw i k ≤ G_free ag i k then 0 else 1 := by
  have h10 := q_10
  unfold F_over
  rw [q_harmTo hsl hi hk]
  by_cases hik : i = k
  · subst hik
    have h0 : F_ahead dt i i = 0 := if_pos (Int32.le_refl _)
    have h1 : G_ahead dt st i i = 0 := if_pos (Int32.le_refl _)
    rw [if_pos h0, if_pos h1]
  · by_cases h1 : dt i ≤ dt k
    · have h0 : F_ahead dt k i = 0 := if_pos h1
      have h2 : G_ahead dt st k i = 0 := if_pos h1
      rw [if_pos h0, if_pos h2]
    · have h0 : F_ahead dt k i = 1 := if_neg h1
      rw [h0, if_neg h10]
      by_cases h2 : st k = 4 ∨ st i = 4
      · have h3 : G_ahead dt st k i = 0 := by
          unfold G_ahead
          rw [if_neg h1]
          by_cases h4 : st k = 4
          · rw [if_pos h4]
          · rw [if_neg h4, if_pos (h2.resolve_left h4)]
        rw [if_pos h3, q_harm0 h2.symm, if_pos (hL.1 i k hi hk hik)]
      · have h4 : ¬ st k = 4 := fun q => h2 (Or.inl q)
        have h5 : ¬ st i = 4 := fun q => h2 (Or.inr q)
        have h3 : ¬ G_ahead dt st k i = 0 := by
          unfold G_ahead
          rw [if_neg h1, if_neg h4, if_neg h5]
          exact h10
        rw [if_neg h3, hL.2.1 i k hi hk hik h5 h4]
theorem q_needs {bd st sl pw dt lm ag : A32} {n i : Nat} (hsl : ∀ i, i < n → ∃ c, c < 360 ∧ sl i = nI c) (hL : R_lim st lm ag n) (hi : i < n) : ∀ m, m ≤ n → F_cnt (fun k => F_over bd st sl pw dt lm i k) m = G_needs bd st sl pw dt ag i m
  | 0, _ => rfl
  | m + 1, h => by
    have ih := q_needs (bd := bd) (pw := pw) (dt := dt) hsl hL hi m (by omega)
    have h10 := q_10
    show (if F_over bd st sl pw dt lm i m = 0 then F_cnt (fun k => F_over bd st sl pw dt lm i k) m else F_cnt (fun k => F_over bd st sl pw dt lm i k) m + 1) = _
    rw [q_over hsl hL hi (by omega), ih, G_needs]
    by_cases h1 : G_ahead dt st m i = 0
    · simp only [h1, ↓reduceIte, Int32.add_zero]
    · by_cases h2 : G_harmOf bd st sl pw i m ≤ G_free ag i m
      · simp only [h1, h2, ↓reduceIte, Int32.add_zero]
      · simp only [h1, h2, h10, ↓reduceIte]
theorem q_bears {bd st sl pw dt : A32} {n i : Nat} (hsl : ∀ i, i < n → ∃ c, c < 360 ∧ sl i = nI c) (hi : i < n) : ∀ m, m ≤ n → F_borne bd st sl pw dt i m = G_bears bd st sl pw dt i m
  | 0, _ => rfl
  | m + 1, h => by
    have ih := q_bears (bd := bd) (st := st) (sl := sl) (pw := pw) (dt := dt) hsl hi m (by omega)
    have h10 := q_10
    rw [F_borne, G_bears, ih, q_harmTo hsl (show m < n by omega) hi]
    by_cases h2 : st m = 2
    · have h4 : ¬ st m = 4 := by rw [h2]; decide
      by_cases ha : dt m ≤ dt i
      · have e1 : F_ahead dt i m = 0 := if_pos ha
        have e2 : G_ahead dt st i m = 0 := if_pos ha
        simp only [h2, e1, e2, ↓reduceIte, Int32.add_zero]
      · have e1 : ¬ F_ahead dt i m = 0 := by unfold F_ahead; rw [if_neg ha]; exact h10
        by_cases h3 : st i = 4
        · have e2 : G_ahead dt st i m = 0 := by unfold G_ahead; rw [if_neg ha, if_pos h3]
          simp only [h2, e1, e2, q_harm0 (Or.inr h3), ↓reduceIte, Int32.add_zero]
        · have e2 : ¬ G_ahead dt st i m = 0 := by unfold G_ahead; rw [if_neg ha, if_neg h3, if_neg h4]; exact h10
          simp only [h2, e1, e2, ↓reduceIte]
    · by_cases e2 : G_ahead dt st i m = 0
      · simp only [h2, e2, ↓reduceIte, Int32.add_zero]
      · simp only [h2, e2, ↓reduceIte, Int32.add_zero]
theorem q_keep {f g f' g' : A32} : ∀ m, (∀ k, k < m → f k = f' k ∧ g k = g' k) → G_keep f' g' m = F_keep (F_any f g m)
  | 0, _ => rfl
  | m + 1, h => by
    have ih := q_keep (f := f) (g := g) (f' := f') (g' := g') m (fun k hk => h k (by omega))
    have h10 := q_10
    obtain ⟨e1, e2⟩ := h m (by omega)
    rw [G_keep, F_any, ih, ← e1, ← e2]
    unfold F_keep
    by_cases h1 : F_any f g m = 0
    · by_cases h2 : f m ≤ g m
      · simp only [h1, h2, h10, z_nlt.mpr h2, ↓reduceIte]
      · simp only [h1, h2, h10, z_nle.mp h2, ↓reduceIte]
    · simp only [h1, h10, ↓reduceIte]
theorem q_01 {x : Int32} (h : F_keep x = 0) : ¬ x = 0 := fun q => by rw [q] at h; exact q_10 h
theorem q_served (sv : A32) (x : Int32) : ∀ m, G_served sv x m = F_served sv x m
  | 0 => rfl
  | m + 1 => by
    rw [G_served, F_served, q_served sv x m, Int32.add_zero]
theorem q_susSv (sv : A32) (x : Int32) : ∀ m j, F_susSv sv x m j = if j < m ∧ sv j = x then -1 else sv j
  | 0, j => by rw [if_neg (fun q => absurd q.1 (Nat.not_lt_zero j))]; rfl
  | m + 1, j => by
    have ih := q_susSv sv x m
    rw [F_susSv]
    have hm : F_susSv sv x m m = sv m := by rw [ih m, if_neg (fun q => Nat.lt_irrefl m q.1)]
    rw [hm]
    by_cases h : sv m = x
    · rw [if_pos h]
      by_cases e : j = m
      · rw [e, upd_same, if_pos ⟨Nat.lt_succ_self m, h⟩]
      · rw [upd_other _ _ e, ih j]
        by_cases q : j < m ∧ sv j = x
        · rw [if_pos q, if_pos ⟨by omega, q.2⟩]
        · rw [if_neg q, if_neg (fun z => q ⟨by omega, z.2⟩)]
    · rw [if_neg h, ih j]
      by_cases q : j < m ∧ sv j = x
      · rw [if_pos q, if_pos ⟨by omega, q.2⟩]
      · rw [if_neg q, if_neg (fun z => q ⟨by
          rcases Nat.lt_succ_iff_lt_or_eq.mp z.1 with h1 | h1
          · exact h1
          · exact absurd (h1 ▸ z.2) h, z.2⟩)]
theorem q_susAt (sv : A32) (x : Int32) (m : Nat) : F_susSv sv x m m = sv m := by rw [q_susSv, if_neg (fun q => Nat.lt_irrefl m q.1)]
theorem q_susSt (st sv : A32) (x : Int32) : ∀ m j, F_susSt st sv x m j = if j < m ∧ sv j = x then 3 else st j
  | 0, j => by rw [if_neg (fun q => absurd q.1 (Nat.not_lt_zero j))]; rfl
  | m + 1, j => by
    have ih := q_susSt st sv x m
    rw [F_susSt, q_susAt]
    by_cases h : sv m = x
    · rw [if_pos h]
      by_cases e : j = m
      · rw [e, upd_same, if_pos ⟨Nat.lt_succ_self m, h⟩]
      · rw [upd_other _ _ e, ih j]
        by_cases q : j < m ∧ sv j = x
        · rw [if_pos q, if_pos ⟨by omega, q.2⟩]
        · rw [if_neg q, if_neg (fun z => q ⟨by omega, z.2⟩)]
    · rw [if_neg h, ih j]
      by_cases q : j < m ∧ sv j = x
      · rw [if_pos q, if_pos ⟨by omega, q.2⟩]
      · rw [if_neg q, if_neg (fun z => q ⟨by
          rcases Nat.lt_succ_iff_lt_or_eq.mp z.1 with h1 | h1
          · exact h1
          · exact absurd (h1 ▸ z.2) h, z.2⟩)]
theorem q_susSo (so sv : A32) (x d : Int32) : ∀ m j, F_susSo so sv x d m j = if j < m ∧ sv j = x then d else so j
  | 0, j => by rw [if_neg (fun q => absurd q.1 (Nat.not_lt_zero j))]; rfl
  | m + 1, j => by
    have ih := q_susSo so sv x d m
    rw [F_susSo, q_susAt]
    by_cases h : sv m = x
    · rw [if_pos h]
      by_cases e : j = m
      · rw [e, upd_same, if_pos ⟨Nat.lt_succ_self m, h⟩]
      · rw [upd_other _ _ e, ih j]
        by_cases q : j < m ∧ sv j = x
        · rw [if_pos q, if_pos ⟨by omega, q.2⟩]
        · rw [if_neg q, if_neg (fun z => q ⟨by omega, z.2⟩)]
    · rw [if_neg h, ih j]
      by_cases q : j < m ∧ sv j = x
      · rw [if_pos q, if_pos ⟨by omega, q.2⟩]
      · rw [if_neg q, if_neg (fun z => q ⟨by
          rcases Nat.lt_succ_iff_lt_or_eq.mp z.1 with h1 | h1
          · exact h1
          · exact absurd (h1 ▸ z.2) h, z.2⟩)]
theorem q_susN (sv : A32) (x : Int32) : ∀ m, F_susN sv x m = F_served sv x m
  | 0 => rfl
  | m + 1 => by rw [F_susN, F_served, q_susAt, q_susN sv x m]
theorem q_fst (bd st sl dt : A32) (x1 x2 : Int32) : ∀ m, G_fst bd st sl dt x1 x2 m = F_fst bd st sl dt x1 x2 m
  | 0 => rfl
  | m + 1 => by
    have h10 := q_10
    rw [G_fst, F_fst, q_fst bd st sl dt x1 x2 m]
    unfold F_lapsed F_ahead
    generalize F_fst bd st sl dt x1 x2 m = r
    by_cases h1 : sl m = x1
    · by_cases h2 : bd m = x2
      · by_cases h3 : st m = 4
        · simp only [h1, h2, h3, h10, ↓reduceIte]
        · by_cases h4 : r = -1
          · simp only [h1, h2, h3, h4, ↓reduceIte]
          · by_cases h5 : dt r.toNatClampNeg ≤ dt m
            · simp only [h1, h2, h3, h4, h5, ↓reduceIte]
            · simp only [h1, h2, h3, h4, h5, h10, ↓reduceIte]
      · simp only [h1, h2, ↓reduceIte, ite_self]
    · simp only [h1, ↓reduceIte, ite_self]
theorem q_end (s t o : Int32) : G_endOf s t o = F_lapseDay s t o := by
  have h10 := q_10
  unfold G_endOf F_lapseDay
  by_cases h0 : s = 0
  · subst h0
    rw [if_neg (show ¬ F_in 0 0 1 = 0 by decide), if_pos rfl]
  · by_cases h1 : s = 1
    · subst h1
      rw [if_neg (show ¬ F_in 1 0 1 = 0 by decide), if_neg q_10, if_pos rfl]
    · have h2 : F_in s 0 1 = 0 := by
        refine Classical.byContradiction fun q => ?_
        obtain ⟨e, hb⟩ := F_in_nat 2 q (by decide)
        rcases (show ix s = 0 ∨ ix s = 1 by omega) with h | h
        · rw [h] at e; exact h0 e
        · rw [h] at e; exact h1 e
      rw [if_pos h2, if_neg h0, if_neg h1]
theorem q_fof (ld sl bd pw dt st uc sv tl so : A32) (i k : Nat) : G_fof ld sl bd pw dt st uc sv tl so i k = F_fof ld sl bd pw dt st uc sv tl so i k := by
  unfold G_fof F_fof
  rw [q_end]
theorem q_low : ∀ c, c < 256 → 1 ≤ c → F_bit (nI c) = G_many (nI c) 8 := by decide +kernel
theorem q_bitnz : ∀ c, c < 256 → 1 ≤ c → ¬ F_bit (nI c) = 0 := by decide +kernel
theorem q_pay (s sh : Int32) (py : A64) : ∀ m, F_pay s sh py m = G_pay s sh py m
  | 0 => rfl
  | m + 1 => by
    rw [F_pay, G_pay, q_pay s sh py m]
    unfold F_among
    by_cases h : (s >>> (nI m &&& 31)) &&& 1 = 1
    · rw [if_pos h, if_pos h, if_neg q_10]
    · rw [if_neg h, if_neg h, if_pos rfl]
      funext j
      unfold vp_updL
      by_cases e : j = m
      · rw [if_pos e, e, Int64.add_zero]
      · rw [if_neg e]
theorem q_even : ∀ c, c < 16 → ∀ d, d < 16 → (nI c &&& 1 = nI d &&& 1 ↔ nI c - nI c / 2 * 2 = nI d - nI d / 2 * 2) := by decide +kernel
theorem q_can (hw fu : A32) (i : Nat) : G_can hw fu i = F_canDodge hw fu i := by
  unfold G_can F_canDodge
  by_cases h : hw i = 0
  · rw [if_pos h, if_pos h]
    by_cases h1 : fu i ≤ 0
    · rw [if_pos h1, if_pos (z_le0.mp h1)]
    · rw [if_neg h1, if_neg (fun q => h1 (z_le0.mpr q))]
  · rw [if_neg h, if_neg h]
theorem q_serv (sv : A32) (x : Int32) : ∀ m, ∃ c, c ≤ m ∧ G_served sv x m = nI c
  | 0 => ⟨0, Nat.le_refl _, nI_0.symm⟩
  | m + 1 => by
    obtain ⟨c, hc, e⟩ := q_serv sv x m
    rw [G_served, e]
    by_cases h : sv m = x
    · rw [if_pos h]; exact ⟨c + 1, by omega, nI_1 c⟩
    · rw [if_neg h]; exact ⟨c, by omega, Int32.add_zero _⟩
theorem q_all {sv sv2 : A32} {x y w : Int32} {n : Nat} (hn : n ≤ 40) : G_all (G_served sv x n + G_served sv2 y n) w = w := by
  obtain ⟨c, hc, e1⟩ := q_serv sv x n
  obtain ⟨d, hd, e2⟩ := q_serv sv2 y n
  unfold G_all
  rw [e1, e2, nI_add, if_pos (nI_pos' (by omega))]
theorem q_hit (hw fu au : A32) {i j : Nat} (hi : i < 16) (hj : j < 16) : G_hit hw fu au i j (nI i) (nI j) = F_nearH hw fu au i j (nI i) (nI j) := by
  unfold G_hit F_nearH F_hitM
  rw [q_can, q_can]
  have h := q_even i hi j hj
  by_cases e : nI i &&& 1 = nI j &&& 1
  · rw [if_pos e, if_pos (h.mp e)]
  · rw [if_neg e, if_neg (fun q => e (h.mpr q))]
theorem q_nearR (hw fu au : A32) {i j : Nat} (hi : i < 16) (hj : j < 16) {c : Int32} (hc : ∀ w, G_all c w = w) : G_nearR hw fu au i j (nI i) (nI j) c = F_nearR hw fu au i j (nI i) (nI j) := by
  unfold G_nearR F_nearR F_meetR
  rw [q_can, q_can, hc, hc]
  have h := q_even i hi j hj
  have e0 : G_gt (nI i) (nI j) = F_gt (nI i) (nI j) := rfl
  rw [e0]
  by_cases e : nI i &&& 1 = nI j &&& 1
  · rw [if_pos e, if_pos (h.mp e)]
  · rw [if_neg e, if_neg (fun q => e (h.mpr q))]
theorem q_nearFu (hw fu au : A32) {i j : Nat} (hi : i < 16) (hj : j < 16) : F_nearFu hw fu au i j = G_nearFu hw fu au i j (nI i) (nI j) := by
  unfold G_nearFu F_nearFu F_meetFu
  rw [q_can, q_can]
  have h : G_gtFu fu i j (nI i) (nI j) = upd fu (max i j) (fu (max i j) - 1) := by
    unfold G_gtFu
    by_cases e : i ≤ j
    · rw [if_pos ((nI_leI (by omega) (by omega)).mpr e), Nat.max_eq_right e]
    · rw [if_neg (fun q => e ((nI_leI (by omega) (by omega)).mp q)), Nat.max_eq_left (by omega)]
  rw [h]
theorem e_one {x1 : Int32} {n : Nat} (h : E_one x1 n = 0) : ¬ F_in x1 0 (nI n - 1) = 0 := fun q => by
  unfold E_one at h
  rw [if_pos q] at h
  omega
theorem e_two {x1 x2 : Int32} {n : Nat} (h : E_two x1 x2 n = 0) : ¬ F_in x1 0 (nI n - 1) = 0 ∧ ¬ F_in x2 0 (nI n - 1) = 0 := by
  unfold E_two at h
  by_cases q1 : F_in x1 0 (nI n - 1) = 0
  · rw [if_pos q1] at h; omega
  · by_cases q2 : F_in x2 0 (nI n - 1) = 0
    · rw [if_neg q1, if_pos q2] at h; omega
    · exact ⟨q1, q2⟩
theorem e_claim {x1 x2 : Int32} {ns : Nat} (h : E_claim x1 x2 ns = 0) : ¬ F_in x1 0 (nI ns - 1) = 0 := fun q => by
  unfold E_claim at h
  rw [if_pos q] at h
  omega
theorem q_allow {dt st lm ag : A32} {n i j : Nat} (hL : R_lim st lm ag n) (hi : i < n) (hj : j < n) : G_allow dt st ag i j = F_allow dt st lm i j := by
  have h10 := q_10
  unfold G_allow F_allow G_ahead F_ahead F_lapsed
  by_cases h1 : dt i ≤ dt j
  · simp only [h1, ↓reduceIte]
  · by_cases h2 : st j = 4
    · by_cases h3 : st i = 4
      · simp only [h1, h2, h3, h10, ↓reduceIte]
      · simp only [h1, h2, h3, h10, ↓reduceIte]
    · by_cases h3 : st i = 4
      · simp only [h1, h2, h3, h10, ↓reduceIte]
      · have hij : ¬ i = j := fun q => h1 (by rw [q]; exact Int32.le_refl _)
        simp only [h1, h2, h3, h10, ↓reduceIte]
        exact (hL.2.1 i j hi hj hij h3 h2).symm
theorem q_m1 {c : Nat} (h : c < 1000) : ¬ nI c = -1 := fun q => by
  have h1 := nI_pos (n := c) (by omega)
  rw [q] at h1
  exact h1 (by decide)
theorem e_agree {x1 x2 x3 : Int32} {n : Nat} {st bd : A32} (h : E_agree x1 x2 x3 n st bd = 0) : ¬ F_in x1 0 (nI n - 1) = 0 ∧ ¬ F_in x2 0 (nI n - 1) = 0 ∧ ¬ x1 = x2 ∧ ¬ F_in x3 0 600 = 0 ∧ ¬ st (ix x1) = 4 ∧ ¬ st (ix x2) = 4 := by
  unfold E_agree at h
  refine ⟨?_, ?_, ?_, ?_, ?_, ?_⟩ <;> (intro q; (repeat' split at h) <;> first | omega | contradiction)
theorem e_launch {x1 x2 x3 : Int32} {ns : Nat} (h : E_launch x1 x2 x3 ns = 0) : ¬ F_in x2 0 359 = 0 ∧ ¬ F_in x1 1 255 = 0 ∧ ¬ 16 ≤ ns := by
  unfold E_launch at h
  refine ⟨?_, ?_, ?_⟩ <;> (intro q; (repeat' split at h) <;> first | omega | contradiction)
theorem R_sat_add {ss hw ax : A32} {ns : Nat} {x1 x2 : Int32} (h : R_sat ss hw ax ns) (hns : ns < 16) (h1 : ¬ F_in x1 1 255 = 0) (h2 : ¬ F_in x2 0 359 = 0) : R_sat (upd ss ns x1) (upd hw ns 0) (upd ax ns x2) (ns + 1) := by
  obtain ⟨g1, g2, g3⟩ := F_in_natL 256 h1 (by decide) (by decide)
  obtain ⟨g4, g5⟩ := F_in_nat 360 h2 (by decide)
  have g6 : (1 : Int32).toInt = 1 := by decide
  refine ⟨by omega, fun k hk => ?_, fun i hi => ?_, fun i hi hw1 => ?_⟩
  · rw [upd_other _ _ (by omega)]; exact h.2.1 k (by omega)
  · by_cases e : i = ns
    · rw [e, upd_same]; exact ⟨ix x1, by omega, g2, g1⟩
    · rw [upd_other _ _ e]; exact h.2.2.1 i (by omega)
  · by_cases e : i = ns
    · rw [e, upd_same]; exact ⟨ix x2, g5, g4⟩
    · rw [upd_other _ _ e]; rw [upd_other _ _ e] at hw1; exact h.2.2.2 i (by omega) hw1
theorem R_lim_agree {st lm ag : A32} {n i j : Nat} {x3 : Int32} (hn : n ≤ 40) (h : R_lim st lm ag n) (hi : i < n) (hj : j < n) (h3 : ¬ F_in x3 0 600 = 0) : R_lim st (upd (upd lm (i * 40 + j) x3) (j * 40 + i) x3) (upd (upd ag (40 * i + j) x3) (40 * j + i) x3) n := by
  obtain ⟨g1, g2⟩ := F_in_nat 601 h3 (by decide)
  have g3 : ¬ x3 = -1 := by rw [g1]; exact q_m1 (by omega)
  have g4 : 0 ≤ x3 := by rw [g1]; exact nI_pos' (by omega)
  refine ⟨fun p q hp hq hpq => ?_, fun p q hp hq hpq hs1 hs2 => ?_, fun p q hp hq hpq => ?_⟩
  · by_cases e : p * 40 + q = j * 40 + i
    · rw [e, upd_same]; exact g4
    · rw [upd_other _ _ e]
      by_cases e2 : p * 40 + q = i * 40 + j
      · rw [e2, upd_same]; exact g4
      · rw [upd_other _ _ e2]; exact h.1 p q hp hq hpq
  · unfold G_free
    by_cases e : p * 40 + q = j * 40 + i
    · rw [e, upd_same, show 40 * p + q = 40 * j + i by omega, upd_same, if_neg g3]
    · rw [upd_other _ _ e, upd_other (upd ag (40 * i + j) x3) _ (show ¬ 40 * p + q = 40 * j + i by omega)]
      by_cases e2 : p * 40 + q = i * 40 + j
      · rw [e2, upd_same, show 40 * p + q = 40 * i + j by omega, upd_same, if_neg g3]
      · rw [upd_other _ _ e2, upd_other ag _ (show ¬ 40 * p + q = 40 * i + j by omega)]
        exact h.2.1 p q hp hq hpq hs1 hs2
  · rw [upd_other (upd ag (40 * i + j) x3) _ (show ¬ 40 * p + q = 40 * j + i by omega), upd_other ag _ (show ¬ 40 * p + q = 40 * i + j by omega)]
    exact h.2.2 p q hp hq hpq
/-! the journal -/
theorem q_due (s a b d : Int32) (h0 : ¬ s = 0) (h1 : ¬ s = 1) (h3 : ¬ s = 3) : F_due s a b d = 0 := by
  unfold F_due F_lapseDay
  rw [if_neg h0, if_neg h1, if_neg h3, if_pos rfl]
theorem q_due4 (a b d : Int32) : F_due 4 a b d = 0 := q_due 4 a b d (by decide) (by decide) (by decide)
theorem q_due2 (a b d : Int32) : F_due 2 a b d = 0 := q_due 2 a b d (by decide) (by decide) (by decide)
theorem q_due01 (a b b' d : Int32) : F_due 1 a b d = F_due 0 a b' d := by
  unfold F_due F_lapseDay
  rw [if_neg (show ¬ (1 : Int32) = 0 by decide), if_pos (show (1 : Int32) = 1 by rfl), if_pos (show (0 : Int32) = 0 by rfl)]
theorem q_reach0 {d : Int32} {T : T5} (h : F_due T.1 T.2.2.2.1 T.2.2.2.2 d = 0) : F_reach d T = T := by
  unfold F_reach
  exact if_pos h
theorem q_rowdue {T : T5} {s l v t o d : Int32} (hT : R_row T s l v t o) (h : F_due s t o d = 0) : F_due T.1 T.2.2.2.1 T.2.2.2.2 d = 0 := by
  obtain ⟨e1, e2, e3, e4, e5⟩ := hT
  rw [e1, e4]
  by_cases h3 : s = 3
  · rw [e5.1 h3]; exact h
  · unfold F_due F_lapseDay at h ⊢
    rw [if_neg h3] at h ⊢
    exact h
theorem q_rowreach {T : T5} {s l v t o d : Int32} (hT : R_row T s l v t o) (h : F_due s t o d = 0) : R_row (F_reach d T) s l v t o := by
  rw [q_reach0 (q_rowdue hT h)]
  exact hT
theorem q_exam {f : Int32} {kk kk' : Nat → Nat} {jd jd' js js' jt jt' : A32} {T0 : T5} : ∀ m, (∀ i, i < m → kk i = kk' i ∧ jd i = jd' i ∧ js i = js' i ∧ jt i = jt' i) → F_exam f kk jd js jt T0 m = F_exam f kk' jd' js' jt' T0 m
  | 0, _ => rfl
  | m + 1, h => by
    obtain ⟨e1, e2, e3, e4⟩ := h m (by omega)
    rw [F_exam, F_exam, e1, e2, e3, e4, q_exam m (fun i hi => h i (by omega))]
theorem q_note {f : Int32} {T0 : T5} {jk jd js jt : A32} {jn c : Nat} {x td s d : Int32} (hx : x = nI c) (hc : c < 8) : F_exam f (jK (upd jk jn x)) (upd jd jn td) (upd js jn s) (upd jt jn d) T0 (jn + 1) = F_hear f c td s d (F_reach td (F_exam f (jK jk) jd js jt T0 jn)) := by
  subst hx
  have e : jK (upd jk jn (nI c)) jn = c := by
    show ix (upd jk jn (nI c) jn) = c
    rw [upd_same]; exact ix_nI (by omega)
  rw [F_exam, e, upd_same, upd_same, upd_same]
  rw [q_exam (kk' := jK jk) (jd' := jd) (js' := js) (jt' := jt) jn (fun i hi => ⟨by show ix (upd jk jn (nI c) i) = ix (jk i); rw [upd_other _ _ (by omega)], upd_other _ _ (by omega), upd_other _ _ (by omega), upd_other _ _ (by omega)⟩)]
theorem R_jou_step {sl st sv tl so jk jd js jt sl' st' sv' tl' so' : A32} {jn n c : Nat} {td x s d : Int32} (hJ : R_jou sl st sv tl so jk jd js jt jn n td) (hx : x = nI c) (hc : c < 8) (hs : c ≤ 5 → ∃ m, m < n ∧ s = nI m)
    (hB : ∀ f, f < n → ∀ T, R_row T (st f) (sl f) (sv f) (tl f) (so f) → R_row (F_hear (nI f) c td s d T) (st' f) (sl' f) (sv' f) (tl' f) (so' f)) (hdue : ∀ f, f < n → F_due (st' f) (tl' f) (so' f) td = 0) : R_jou sl' st' sv' tl' so' (upd jk jn x) (upd jd jn td) (upd js jn s) (upd jt jn d) (jn + 1) n td := by
  have ej : ∀ i, ¬ i = jn → jK (upd jk jn x) i = jK jk i := fun i hi => by show ix (upd jk jn x i) = ix (jk i); rw [upd_other _ _ hi]
  have en : jK (upd jk jn x) jn = c := by show ix (upd jk jn x jn) = c; rw [upd_same, hx]; exact ix_nI (by omega)
  refine ⟨fun i hi => ?_, fun i hi h5 => ?_, fun f hf el et eo => ?_⟩
  · by_cases e : i = jn
    · rw [e, en, upd_same]; exact ⟨hx, hc⟩
    · rw [ej i e, upd_other _ _ e]; exact hJ.1 i (by omega)
  · by_cases e : i = jn
    · rw [e, en] at h5; rw [e, upd_same]; exact hs h5
    · rw [ej i e] at h5; rw [upd_other _ _ e]; exact hJ.2.1 i (by omega) h5
  · rw [q_note hx hc]
    exact q_rowreach (hB f hf _ (hJ.2.2 f hf el et eo)) (hdue f hf)
theorem R_jou_own {sl st sv tl so jk jd js jt sl' st' sv' tl' so' : A32} {jn n c i : Nat} {td x s d : Int32} (hJ : R_jou sl st sv tl so jk jd js jt jn n td) (hn : n ≤ 40) (hx : x = nI c) (hc : c ≤ 5) (hi : i < n) (hs : s = nI i)
    (heq : ∀ f, f < n → ¬ f = i → st' f = st f ∧ sl' f = sl f ∧ sv' f = sv f ∧ tl' f = tl f ∧ so' f = so f) (hown : ∀ T, R_row T (st i) (sl i) (sv i) (tl i) (so i) → R_row (F_hfil c td d T) (st' i) (sl' i) (sv' i) (tl' i) (so' i)) (hdue : ∀ f, f < n → F_due (st' f) (tl' f) (so' f) td = 0) : R_jou sl' st' sv' tl' so' (upd jk jn x) (upd jd jn td) (upd js jn s) (upd jt jn d) (jn + 1) n td := by
  refine R_jou_step hJ hx (by omega) (fun _ => ⟨i, hi, hs⟩) (fun f hf T hT => ?_) hdue
  by_cases e : f = i
  · subst e
    rw [show F_hear (nI f) c td s d T = F_hfil c td d T by unfold F_hear; rw [if_neg (by omega), if_neg (by omega), if_pos hs]]
    exact hown T hT
  · obtain ⟨e1, e2, e3, e4, e5⟩ := heq f hf e
    rw [show F_hear (nI f) c td s d T = T by unfold F_hear; rw [if_neg (by omega), if_neg (by omega), if_neg (fun q => e ((nI_eq (by omega) (by omega)).mp (q.symm.trans hs)))], e1, e2, e3, e4, e5]
    exact hT
theorem R_fil_set {sl st tl so sl' st' so' : A32} {n t i : Nat} (h : R_fil sl st tl so n t) (hi : i < n) (heq : ∀ f, ¬ f = i → st' f = st f ∧ sl' f = sl f ∧ so' f = so f) (hsl : ∃ c, c < 360 ∧ sl' i = nI c) (hso : ∃ c, c ≤ t ∧ so' i = nI c) (hdue : F_due (st' i) (tl i) (so' i) (nI t) = 0) : R_fil sl' st' tl so' n t := by
  refine ⟨h.1, fun k hk => ?_, fun f hf => ?_, h.2.2.2.1, fun f => ?_, fun f hf => ?_⟩
  · rw [(heq k (by omega)).1]; exact h.2.1 k hk
  · by_cases e : f = i
    · rw [e]; exact hsl
    · rw [(heq f e).2.1]; exact h.2.2.1 f hf
  · by_cases e : f = i
    · rw [e]; exact hso
    · rw [(heq f e).2.2]; exact h.2.2.2.2.1 f
  · by_cases e : f = i
    · rw [e]; exact hdue
    · rw [(heq f e).1, (heq f e).2.2]; exact h.2.2.2.2.2 f hf
theorem R_lim_st {st st' lm ag : A32} {n : Nat} (h : R_lim st lm ag n) (hst : ∀ f, f < n → ¬ st' f = 4 → ¬ st f = 4) : R_lim st' lm ag n := ⟨h.1, fun i j hi hj hij h1 h2 => h.2.1 i j hi hj hij (hst i hi h1) (hst j hj h2), h.2.2⟩
theorem q_lapAg {ag : A32} {i : Nat} (hi : i < 40) : ∀ m, m ≤ 40 → ∀ p q, p < 40 → q < 40 → (¬ p = i → ¬ q = i → G_lapAg ag i m (40 * p + q) = ag (40 * p + q)) ∧ (ag (40 * p + q) = -1 → G_lapAg ag i m (40 * p + q) = -1)
  | 0, _, _, _, _, _ => ⟨fun _ _ => rfl, fun h => h⟩
  | m + 1, hm, p, q, hp, hq => by
    obtain ⟨i1, i2⟩ := q_lapAg (ag := ag) hi m (by omega) p q hp hq
    refine ⟨fun h1 h2 => ?_, fun h => ?_⟩
    · rw [G_lapAg, upd_other (upd (G_lapAg ag i m) (40 * i + m) (-1)) _ (show ¬ 40 * p + q = 40 * m + i by omega), upd_other (G_lapAg ag i m) _ (show ¬ 40 * p + q = 40 * i + m by omega)]
      exact i1 h1 h2
    · rw [G_lapAg]
      by_cases e : 40 * p + q = 40 * m + i
      · rw [e, upd_same]
      · rw [upd_other (upd (G_lapAg ag i m) (40 * i + m) (-1)) _ e]
        by_cases e2 : 40 * p + q = 40 * i + m
        · rw [e2, upd_same]
        · rw [upd_other (G_lapAg ag i m) _ e2]; exact i2 h
theorem R_lim_lapse {st lm ag : A32} {n i : Nat} (hn : n ≤ 40) (h : R_lim st lm ag n) (hi : i < n) : R_lim (upd st i 4) lm (G_lapAg ag i 40) n := by
  refine ⟨h.1, fun p q hp hq hpq h1 h2 => ?_, fun p q hp hq hpq => (q_lapAg (by omega) 40 (Nat.le_refl _) p q hp hq).2 (h.2.2 p q hp hq hpq)⟩
  have e1 : ¬ p = i := fun e => h1 (by rw [e, upd_same])
  have e2 : ¬ q = i := fun e => h2 (by rw [e, upd_same])
  rw [upd_other _ _ e1] at h1
  rw [upd_other _ _ e2] at h2
  have h3 := h.2.1 p q hp hq hpq h1 h2
  unfold G_free at h3 ⊢
  rw [(q_lapAg (by omega) 40 (Nat.le_refl _) p q (by omega) (by omega)).1 e1 e2]
  exact h3
theorem e_inform {x1 x2 c : Int32} {n : Nat} {st : A32} (h : E_inform x1 x2 c n st = 0) : ¬ F_in x1 0 (nI n - 1) = 0 ∧ st (ix x1) = 0 := by
  unfold E_inform at h
  refine ⟨?_, Classical.byContradiction ?_⟩ <;> (intro q; (repeat' split at h) <;> first | omega | contradiction)
theorem e_withdraw {x1 : Int32} {n : Nat} {st : A32} (h : E_withdraw x1 n st = 0) : ¬ F_in x1 0 (nI n - 1) = 0 ∧ ¬ st (ix x1) = 4 := by
  unfold E_withdraw at h
  refine ⟨?_, ?_⟩ <;> (intro q; (repeat' split at h) <;> first | omega | contradiction)
theorem e_use {x1 x2 : Int32} {n ns : Nat} {st sl hw ax si : A32} {td : Int32} (h : E_use x1 x2 n ns st sl hw ax si td = 0) : ¬ F_in x1 0 (nI n - 1) = 0 ∧ ¬ F_in x2 0 (nI ns - 1) = 0 ∧ ¬ (¬ st (ix x1) = 1 ∧ ¬ st (ix x1) = 3) := by
  unfold E_use at h
  refine ⟨?_, ?_, ?_⟩ <;> (intro q; (repeat' split at h) <;> first | omega | contradiction | exact absurd (by assumption) q.1 | exact absurd (by assumption) q.2)
theorem q_due3 (a : Int32) {t : Nat} (ht : t ≤ 5000) : F_due 3 a (nI t) (nI t) = 0 := by
  unfold F_due F_lapseDay
  rw [if_neg (show ¬ (3 : Int32) = 0 by decide), if_neg (show ¬ (3 : Int32) = 1 by decide), if_pos (show (3 : Int32) = 3 by rfl)]
  have e : nI t + 300 = nI (t + 300) := nI_add t 300
  rw [e]
  by_cases h : nI (t + 300) = -1
  · rw [if_pos h]
  · rw [if_neg h, if_pos (nI_lt (by omega) (by omega))]
theorem R_fil_sus {sl st tl so sv : A32} {n t : Nat} {x : Int32} (h : R_fil sl st tl so n t) (ht : t ≤ 5000) : R_fil sl (F_susSt st sv x n) tl (F_susSo so sv x (nI t) n) n t := by
  refine ⟨h.1, fun k hk => ?_, h.2.2.1, h.2.2.2.1, fun f => ?_, fun f hf => ?_⟩
  · rw [q_susSt, if_neg (fun q => absurd q.1 (by omega))]; exact h.2.1 k hk
  · rw [q_susSo]
    by_cases q : f < n ∧ sv f = x
    · rw [if_pos q]; exact ⟨t, Nat.le_refl _, rfl⟩
    · rw [if_neg q]; exact h.2.2.2.2.1 f
  · rw [q_susSt, q_susSo]
    by_cases q : f < n ∧ sv f = x
    · rw [if_pos q, if_pos q]; exact q_due3 _ ht
    · rw [if_neg q, if_neg q]; exact h.2.2.2.2.2 f hf
theorem R_jou_srv {sl st sv tl so jk jd js jt : A32} {jn n : Nat} {td : Int32} (hJ : R_jou sl st sv tl so jk jd js jt jn n td) : ∀ f, f < n → st f = 4 → sv f = -1 := fun f hf => (hJ.2.2 f hf 0 0 0).2.2.2.2.2
theorem R_lim_sus {st sv lm ag : A32} {n : Nat} {x : Int32} (h : R_lim st lm ag n) (hv : ∀ f, f < n → st f = 4 → sv f = -1) (hx : ¬ x = -1) : R_lim (F_susSt st sv x n) lm ag n := R_lim_st h (fun f hf q => by
  rw [q_susSt] at q
  by_cases z : f < n ∧ sv f = x
  · exact fun s4 => hx (z.2.symm.trans (hv f hf s4))
  · rw [if_neg z] at q; exact q)
theorem R_jou_dep {sl st sv tl so jk jd js jt : A32} {jn n t : Nat} {x : Int32} (hJ : R_jou sl st sv tl so jk jd js jt jn n (nI t)) (hF : R_fil sl st tl so n t) (ht : t ≤ 5000) (hx : ¬ x = -1) : R_jou sl (F_susSt st sv x n) (F_susSv sv x n) tl (F_susSo so sv x (nI t) n) (upd jk jn 6) (upd jd jn (nI t)) (upd js jn x) (upd jt jn (-1)) (jn + 1) n (nI t) := by
  refine R_jou_step hJ (c := 6) (by decide) (by decide) (fun h => absurd h (by decide)) (fun f hf T hT => ?_) (R_fil_sus hF ht).2.2.2.2.2
  obtain ⟨r1, r2, r3, r4, r5, r6⟩ := hT
  rw [q_susSt, q_susSo, q_susSv]
  by_cases q : sv f = x
  · have z : f < n ∧ sv f = x := ⟨hf, q⟩
    have e : F_hear (nI f) 6 (nI t) x (-1) T = F_intr (nI t) T := by
      show F_hsat (nI t) x (-1) T = _
      unfold F_hsat
      rw [if_neg (fun w => hx (q.symm.trans (r3.symm.trans w))), if_pos (r3.trans q)]
    rw [if_pos z, if_pos z, if_pos z, e]
    exact ⟨rfl, r2, rfl, r4, fun _ => rfl, fun z => absurd z (by decide)⟩
  · have z : ¬ (f < n ∧ sv f = x) := fun w => q w.2
    have e : F_hear (nI f) 6 (nI t) x (-1) T = T := by
      show F_hsat (nI t) x (-1) T = _
      unfold F_hsat
      by_cases w : T.2.2.1 = -1
      · rw [if_pos w]
      · rw [if_neg w, if_neg (fun v => q (r3.symm.trans v)), if_neg w]
    rw [if_neg z, if_neg z, if_neg z, e]
    exact ⟨r1, r2, r3, r4, r5, r6⟩
theorem e_move {x1 x2 : Int32} {ns : Nat} {hw fu ax : A32} (h : E_move x1 x2 ns hw fu ax = 0) : ¬ F_in x1 0 (nI ns - 1) = 0 ∧ ¬ F_in x2 0 359 = 0 ∧ hw (ix x1) = 0 := by
  unfold E_move at h
  refine ⟨?_, ?_, Classical.byContradiction ?_⟩ <;> (intro q; (repeat' split at h) <;> first | omega | contradiction)
theorem e_bury {x1 : Int32} {ns : Nat} {hw fu : A32} (h : E_bury x1 ns hw fu = 0) : ¬ F_in x1 0 (nI ns - 1) = 0 := by
  unfold E_bury at h
  intro q; (repeat' split at h) <;> first | omega | contradiction
theorem e_die {x1 : Int32} {ns : Nat} {hw : A32} (h : E_die x1 ns hw = 0) : ¬ F_in x1 0 (nI ns - 1) = 0 := by
  unfold E_die at h
  intro q; (repeat' split at h) <;> first | omega | contradiction
theorem R_sat_hw {ss hw ax : A32} {ns i : Nat} {v : Int32} (h : R_sat ss hw ax ns) (hi : i < ns) (hv : v = 1 ∨ ¬ hw i = 1) : R_sat ss (upd hw i v) ax ns := by
  refine ⟨h.1, fun k hk => ?_, h.2.2.1, fun f hf q => ?_⟩
  · rw [upd_other _ _ (by omega)]; exact h.2.1 k hk
  · by_cases e : f = i
    · rw [e, upd_same] at q
      rcases hv with hv | hv
      · exact absurd hv q
      · rw [e]; exact h.2.2.2 i hi hv
    · rw [upd_other _ _ e] at q; exact h.2.2.2 f hf q
theorem e_complain {x1 x2 : Int32} {n : Nat} {st : A32} (h : E_complain x1 x2 n st = 0) : ¬ F_in x1 0 (nI n - 1) = 0 ∧ ¬ F_in x2 0 (nI n - 1) = 0 ∧ st (ix x2) = 2 := by
  unfold E_complain at h
  refine ⟨?_, ?_, Classical.byContradiction ?_⟩ <;> (intro q; (repeat' split at h) <;> first | omega | contradiction)
theorem e_change {x1 x2 x3 : Int32} {n : Nat} {st : A32} (h : E_change x1 x2 x3 n st = 0) : ¬ F_in x1 0 (nI n - 1) = 0 ∧ ¬ F_in x2 0 359 = 0 ∧ ¬ st (ix x1) = 4 := by
  unfold E_change at h
  refine ⟨?_, ?_, ?_⟩ <;> (intro q; (repeat' split at h) <;> first | omega | contradiction)
theorem q_ends {bd st sl pw dt lm ag uc : A32} {n i j : Nat} (hsl : ∀ i, i < n → ∃ c, c < 360 ∧ sl i = nI c) (hL : R_lim st lm ag n) (hi : i < n) (hj : j < n) : G_ends bd st sl pw dt ag uc i j = F_uph (uc j) (F_over bd st sl pw dt lm j i) := by
  have h10 := q_10
  unfold G_ends F_uph
  rw [q_over hsl hL hj hi]
  by_cases h0 : uc j = 0
  · simp only [h0, ↓reduceIte]
  · by_cases h1 : G_ahead dt st i j = 0
    · simp only [h0, h1, ↓reduceIte]
    · by_cases h2 : G_harmOf bd st sl pw j i ≤ G_free ag j i
      · simp only [h0, h1, h2, ↓reduceIte]
      · simp only [h0, h1, h2, h10, ↓reduceIte]
theorem e_file {x1 x2 x3 x4 : Int32} {n : Nat} (h : E_file x1 x2 x3 x4 n = 0) : ¬ F_in x2 0 359 = 0 ∧ ¬ 40 ≤ n := by
  unfold E_file at h
  refine ⟨?_, ?_⟩ <;> (intro q; (repeat' split at h) <;> first | omega | contradiction)
theorem q_due0 (o : Int32) {t : Nat} (ht : t ≤ 5000) : F_due 0 (nI t) o (nI t) = 0 := by
  unfold F_due F_lapseDay
  rw [if_pos (show (0 : Int32) = 0 by rfl)]
  have e : nI t + 700 = nI (t + 700) := nI_add t 700
  rw [e]
  by_cases h : nI (t + 700) = -1
  · rw [if_pos h]
  · rw [if_neg h, if_pos (nI_lt (by omega) (by omega))]
theorem q_lim {lm : A32} {n : Nat} (hn : n < 40) : ∀ m, m ≤ n → ∀ p q, p < 40 → q < 40 → (¬ p = n → ¬ q = n → F_lim lm n m (p * 40 + q) = lm (p * 40 + q)) ∧ ((p = n ∧ q < m) ∨ (q = n ∧ p < m) → F_lim lm n m (p * 40 + q) = 20)
  | 0, _, _, _, _, _ => ⟨fun _ _ => rfl, fun h => by omega⟩
  | m + 1, hm, p, q, hp, hq => by
    obtain ⟨i1, i2⟩ := q_lim (lm := lm) hn m (by omega) p q hp hq
    refine ⟨fun h1 h2 => ?_, fun h => ?_⟩
    · rw [F_lim, upd_other (upd (F_lim lm n m) (n * 40 + m) 20) _ (show ¬ p * 40 + q = m * 40 + n by omega), upd_other (F_lim lm n m) _ (show ¬ p * 40 + q = n * 40 + m by omega)]
      exact i1 h1 h2
    · rw [F_lim]
      by_cases e : p * 40 + q = m * 40 + n
      · rw [e, upd_same]
      · rw [upd_other (upd (F_lim lm n m) (n * 40 + m) 20) _ e]
        by_cases e2 : p * 40 + q = n * 40 + m
        · rw [e2, upd_same]
        · rw [upd_other (F_lim lm n m) _ e2]
          exact i2 (by omega)
theorem R_lim_file {st lm ag : A32} {n : Nat} (hn : n < 40) (h : R_lim st lm ag n) : R_lim (upd st n 0) (F_lim lm n n) ag (n + 1) := by
  refine ⟨fun p q hp hq hpq => ?_, fun p q hp hq hpq h1 h2 => ?_, fun p q hp hq hpq => h.2.2 p q hp hq (by omega)⟩
  · by_cases e : p = n ∨ q = n
    · rw [(q_lim hn n (Nat.le_refl _) p q (by omega) (by omega)).2 (by omega)]; decide
    · rw [(q_lim hn n (Nat.le_refl _) p q (by omega) (by omega)).1 (fun z => e (Or.inl z)) (fun z => e (Or.inr z))]
      exact h.1 p q (by omega) (by omega) hpq
  · by_cases e : p = n ∨ q = n
    · rw [(q_lim hn n (Nat.le_refl _) p q (by omega) (by omega)).2 (by omega)]
      unfold G_free
      rw [if_pos (h.2.2 p q (by omega) (by omega) (by omega))]
    · have ep : ¬ p = n := fun z => e (Or.inl z)
      have eq : ¬ q = n := fun z => e (Or.inr z)
      rw [(q_lim hn n (Nat.le_refl _) p q (by omega) (by omega)).1 ep eq]
      rw [upd_other _ _ ep] at h1
      rw [upd_other _ _ eq] at h2
      exact h.2.1 p q (by omega) (by omega) hpq h1 h2
theorem q_fresh {jk jd js jt : A32} {jn n : Nat} (hn : n < 40) (h : ∀ i, i < jn → jK jk i ≤ 5 → ∃ m, m < n ∧ js i = nI m) (h8 : ∀ i, i < jn → jK jk i < 8) (el et eo : Int32) : ∀ m, m ≤ jn → F_exam (nI n) (jK jk) jd js jt ((-1), el, (-1), et, eo) m = ((-1), el, (-1), et, eo)
  | 0, _ => rfl
  | m + 1, hm => by
    rw [F_exam, q_fresh hn h h8 el et eo m (by omega), q_reach0 (q_due (-1) et eo (jd m) (by decide) (by decide) (by decide))]
    unfold F_hear
    by_cases h6 : jK jk m = 6
    · rw [if_pos h6]; unfold F_hsat; rw [if_pos rfl]
    · by_cases h7 : jK jk m = 7
      · rw [if_neg h6, if_pos h7]; unfold F_hsat; rw [if_pos rfl]
      · have h9 := h8 m (by omega)
        obtain ⟨c, hc, e⟩ := h m (by omega) (by omega)
        rw [if_neg h6, if_neg h7, if_neg (fun z => by
          rw [e] at z
          have := (nI_eq (by omega) (by omega)).mp z
          omega)]
theorem e_near {x1 x2 : Int32} {ns : Nat} {hw ax : A32} (h : E_near x1 x2 ns hw ax = 0) : ¬ F_in x1 0 (nI ns - 1) = 0 ∧ ¬ F_in x2 0 (nI ns - 1) = 0 ∧ ¬ x1 = x2 ∧ ¬ hw (ix x1) = 1 ∧ ¬ hw (ix x2) = 1 := by
  unfold E_near at h
  refine ⟨?_, ?_, ?_, ?_, ?_⟩ <;> (intro q; (repeat' split at h) <;> first | omega | contradiction)
theorem R_jou_col {sl st sv tl so jk jd js jt : A32} {jn n t : Nat} {x y : Int32} (hJ : R_jou sl st sv tl so jk jd js jt jn n (nI t)) (hF : R_fil sl (F_susSt (F_susSt st sv x n) (F_susSv sv x n) y n) tl (F_susSo (F_susSo so sv x (nI t) n) (F_susSv sv x n) y (nI t) n) n t) (hx : ¬ x = -1) (hy : ¬ y = -1) :
    R_jou sl (F_susSt (F_susSt st sv x n) (F_susSv sv x n) y n) (F_susSv (F_susSv sv x n) y n) tl (F_susSo (F_susSo so sv x (nI t) n) (F_susSv sv x n) y (nI t) n) (upd jk jn 7) (upd jd jn (nI t)) (upd js jn x) (upd jt jn y) (jn + 1) n (nI t) := by
  refine R_jou_step hJ (c := 7) (by decide) (by decide) (fun h => absurd h (by decide)) (fun f hf T hT => ?_) hF.2.2.2.2.2
  obtain ⟨r1, r2, r3, r4, r5, r6⟩ := hT
  simp only [q_susSt, q_susSo, q_susSv]
  by_cases q : sv f = x
  · have z : f < n ∧ sv f = x := ⟨hf, q⟩
    have z2 : ¬ (f < n ∧ (-1 : Int32) = y) := fun w => hy w.2.symm
    have e : F_hear (nI f) 7 (nI t) x y T = F_intr (nI t) T := by
      show F_hsat (nI t) x y T = _
      unfold F_hsat
      rw [if_neg (fun w => hx (q.symm.trans (r3.symm.trans w))), if_pos (r3.trans q)]
    simp only [if_pos z, if_neg z2]
    rw [e]
    exact ⟨rfl, r2, rfl, r4, fun _ => rfl, fun z => absurd z (by decide)⟩
  · have z : ¬ (f < n ∧ sv f = x) := fun w => q w.2
    by_cases u : sv f = y
    · have z2 : f < n ∧ sv f = y := ⟨hf, u⟩
      have e : F_hear (nI f) 7 (nI t) x y T = F_intr (nI t) T := by
        show F_hsat (nI t) x y T = _
        unfold F_hsat
        rw [if_neg (fun w => hy (u.symm.trans (r3.symm.trans w))), if_neg (fun v => q (r3.symm.trans v)), if_pos (r3.trans u)]
      simp only [if_neg z, if_pos z2]
      rw [e]
      exact ⟨rfl, r2, rfl, r4, fun _ => rfl, fun z => absurd z (by decide)⟩
    · have z2 : ¬ (f < n ∧ sv f = y) := fun w => u w.2
      have e : F_hear (nI f) 7 (nI t) x y T = T := by
        show F_hsat (nI t) x y T = _
        unfold F_hsat
        by_cases w : T.2.2.1 = -1
        · rw [if_pos w]
        · rw [if_neg w, if_neg (fun v => q (r3.symm.trans v)), if_neg (fun v => u (r3.symm.trans v))]
      simp only [if_neg z, if_neg z2]
      rw [e]
      exact ⟨r1, r2, r3, r4, r5, r6⟩
/-! pass: lapsing -/
theorem q_lapAt {st tl so : A32} {d : Int32} : ∀ m j, F_lapSt st tl so d m j = if j < m ∧ ¬ F_due (st j) (tl j) (so j) d = 0 then 4 else st j
  | 0, j => by rw [if_neg (fun q => absurd q.1 (Nat.not_lt_zero j))]; rfl
  | m + 1, j => by
    have ih := q_lapAt (st := st) (tl := tl) (so := so) (d := d) m
    have hm : F_lapSt st tl so d m m = st m := by rw [ih m, if_neg (fun q => Nat.lt_irrefl m q.1)]
    rw [F_lapSt, hm]
    by_cases h : F_due (st m) (tl m) (so m) d = 0
    · rw [if_pos h, ih j]
      by_cases q : j < m ∧ ¬ F_due (st j) (tl j) (so j) d = 0
      · rw [if_pos q, if_pos ⟨by omega, q.2⟩]
      · rw [if_neg q, if_neg (fun z => q ⟨by
          rcases Nat.lt_succ_iff_lt_or_eq.mp z.1 with h1 | h1
          · exact h1
          · exact absurd (h1 ▸ h) z.2, z.2⟩)]
    · rw [if_neg h]
      by_cases e : j = m
      · rw [e, upd_same, if_pos ⟨by omega, h⟩]
      · rw [upd_other _ _ e, ih j]
        by_cases q : j < m ∧ ¬ F_due (st j) (tl j) (so j) d = 0
        · rw [if_pos q, if_pos ⟨by omega, q.2⟩]
        · rw [if_neg q, if_neg (fun z => q ⟨by omega, z.2⟩)]
theorem q_lapSv {st sv tl so : A32} {d : Int32} : ∀ m j, F_lapSv st sv tl so d m j = if j < m ∧ ¬ F_due (st j) (tl j) (so j) d = 0 then -1 else sv j
  | 0, j => by rw [if_neg (fun q => absurd q.1 (Nat.not_lt_zero j))]; rfl
  | m + 1, j => by
    have ih := q_lapSv (st := st) (sv := sv) (tl := tl) (so := so) (d := d) m
    have hm : F_lapSt st tl so d m m = st m := by rw [q_lapAt m m, if_neg (fun q => Nat.lt_irrefl m q.1)]
    rw [F_lapSv, hm]
    by_cases h : F_due (st m) (tl m) (so m) d = 0
    · rw [if_pos h, ih j]
      by_cases q : j < m ∧ ¬ F_due (st j) (tl j) (so j) d = 0
      · rw [if_pos q, if_pos ⟨by omega, q.2⟩]
      · rw [if_neg q, if_neg (fun z => q ⟨by
          rcases Nat.lt_succ_iff_lt_or_eq.mp z.1 with h1 | h1
          · exact h1
          · exact absurd (h1 ▸ h) z.2, z.2⟩)]
    · rw [if_neg h]
      by_cases e : j = m
      · rw [e, upd_same, if_pos ⟨by omega, h⟩]
      · rw [upd_other _ _ e, ih j]
        by_cases q : j < m ∧ ¬ F_due (st j) (tl j) (so j) d = 0
        · rw [if_pos q, if_pos ⟨by omega, q.2⟩]
        · rw [if_neg q, if_neg (fun z => q ⟨by omega, z.2⟩)]
theorem q_mono {s a b : Int32} {d d' : Nat} (hd : d ≤ d') (hd' : d' < 10000) (h : ¬ F_due s a b (nI d) = 0) : ¬ F_due s a b (nI d') = 0 := by
  unfold F_due at h ⊢
  by_cases h1 : F_lapseDay s a b = -1
  · rw [if_pos h1] at h; exact absurd rfl h
  · rw [if_neg h1] at h ⊢
    by_cases h2 : nI d < F_lapseDay s a b
    · rw [if_pos h2] at h; exact absurd rfl h
    · have h3 : ¬ nI d' < F_lapseDay s a b := by
        rw [z_lt, nI_toInt (by omega)] at h2 ⊢
        omega
      rw [if_neg h3]
      exact q_10
theorem q_rowdue2 {T : T5} {s l v t o d : Int32} (hT : R_row T s l v t o) : F_due T.1 T.2.2.2.1 T.2.2.2.2 d = F_due s t o d := by
  obtain ⟨e1, e2, e3, e4, e5⟩ := hT
  rw [e1, e4]
  by_cases h3 : s = 3
  · rw [e5.1 h3]
  · unfold F_due F_lapseDay
    rw [if_neg h3, if_neg h3]
theorem q_reach2 {T : T5} {d d' : Nat} (hd : d ≤ d') (hd' : d' < 10000) : F_reach (nI d') T = F_reach (nI d') (F_reach (nI d) T) := by
  by_cases h : F_due T.1 T.2.2.2.1 T.2.2.2.2 (nI d) = 0
  · rw [q_reach0 h]
  · have h2 := q_mono hd hd' h
    have e1 : F_reach (nI d) T = (4, T.2.1, -1, T.2.2.2.1, T.2.2.2.2) := by unfold F_reach; rw [if_neg h]
    have e2 : F_reach (nI d') T = (4, T.2.1, -1, T.2.2.2.1, T.2.2.2.2) := by unfold F_reach; rw [if_neg h2]
    rw [e1, e2, q_reach0 (T := (4, T.2.1, -1, T.2.2.2.1, T.2.2.2.2)) (q_due4 _ _ _)]
theorem R_jou_pass {sl st sv tl so jk jd js jt : A32} {jn n d d' : Nat} (hJ : R_jou sl st sv tl so jk jd js jt jn n (nI d)) (hd : d ≤ d') (hd' : d' < 10000) : R_jou sl (F_lapSt st tl so (nI d') n) (F_lapSv st sv tl so (nI d') n) tl so jk jd js jt jn n (nI d') := by
  refine ⟨hJ.1, hJ.2.1, fun f hf el et eo => ?_⟩
  have hT := hJ.2.2 f hf el et eo
  rw [q_reach2 hd hd']
  generalize F_reach (nI d) (F_exam (nI f) (jK jk) jd js jt ((-1), el, (-1), et, eo) jn) = T at hT ⊢
  rw [q_lapAt, q_lapSv]
  have e := q_rowdue2 (d := nI d') hT
  obtain ⟨r1, r2, r3, r4, r5, r6⟩ := hT
  by_cases h : F_due (st f) (tl f) (so f) (nI d') = 0
  · have z : ¬ (f < n ∧ ¬ F_due (st f) (tl f) (so f) (nI d') = 0) := fun w => w.2 h
    rw [if_neg z, if_neg z, q_reach0 (e.trans h)]
    exact ⟨r1, r2, r3, r4, r5, r6⟩
  · have z : f < n ∧ ¬ F_due (st f) (tl f) (so f) (nI d') = 0 := ⟨hf, h⟩
    have e2 : F_reach (nI d') T = (4, T.2.1, -1, T.2.2.2.1, T.2.2.2.2) := by unfold F_reach; rw [if_neg (fun w => h (e.symm.trans w))]
    rw [if_pos z, if_pos z, e2]
    exact ⟨rfl, r2, rfl, r4, fun w => absurd w (by decide), fun _ => rfl⟩
theorem R_fil_pass {sl st tl so : A32} {n d d' : Nat} (h : R_fil sl st tl so n d) (hd : d ≤ d') : R_fil sl (F_lapSt st tl so (nI d') n) tl so n d' := by
  refine ⟨h.1, fun k hk => ?_, h.2.2.1, fun f hf => ?_, fun f => ?_, fun f hf => ?_⟩
  · rw [q_lapAt, if_neg (fun q => absurd q.1 (by omega))]; exact h.2.1 k hk
  · obtain ⟨c, hc, e⟩ := h.2.2.2.1 f hf; exact ⟨c, by omega, e⟩
  · obtain ⟨c, hc, e⟩ := h.2.2.2.2.1 f; exact ⟨c, by omega, e⟩
  · rw [q_lapAt]
    by_cases q : f < n ∧ ¬ F_due (st f) (tl f) (so f) (nI d') = 0
    · rw [if_pos q]; exact q_due4 _ _ _
    · rw [if_neg q]; exact Classical.byContradiction fun w => q ⟨hf, w⟩
theorem q_old {s td : Int32} {tl so : A32} {k a b : Nat} (ea : tl k = nI a) (ha : a ≤ 5000) (eb : so k = nI b) (hb : b ≤ 5000) : G_old s tl so td k = F_due s (tl k) (so k) td := by
  have h7 : ¬ tl k + 700 = -1 := by
    rw [ea, show nI a + 700 = nI (a + 700) from nI_add a 700]
    intro q
    have h1 := nI_pos (n := a + 700) (by omega)
    rw [q] at h1
    exact h1 (by decide)
  have h3 : ¬ so k + 300 = -1 := by
    rw [eb, show nI b + 300 = nI (b + 300) from nI_add b 300]
    intro q
    have h1 := nI_pos (n := b + 300) (by omega)
    rw [q] at h1
    exact h1 (by decide)
  have hend := q_end s (tl k) (so k)
  unfold G_old G_rest F_due
  rw [← hend]
  unfold G_endOf
  by_cases hi : F_in s 0 1 = 0
  · rw [if_pos hi, if_pos hi]
    by_cases hs : s = 3
    · rw [if_pos hs, if_pos hs, if_neg h3]
    · rw [if_neg hs, if_neg hs, if_pos rfl]
  · rw [if_neg hi, if_neg hi, if_neg h7]
    by_cases hl : td < tl k + 700
    · have hs : ¬ s = 3 := fun q => by rw [q] at hi; exact hi (by decide)
      rw [if_pos hl, if_pos hl, if_neg hs]
    · rw [if_neg hl, if_neg hl]
theorem q_lapTwo {st tl so : A32} {n d d' : Nat} (hd : d ≤ d') (hd' : d' < 10000) : F_lapSt (F_lapSt st tl so (nI d) n) tl so (nI d') n = F_lapSt st tl so (nI d') n := by
  funext j
  have e1 := q_lapAt (st := F_lapSt st tl so (nI d) n) (tl := tl) (so := so) (d := nI d') n j
  have e2 := q_lapAt (st := st) (tl := tl) (so := so) (d := nI d) n j
  have e3 := q_lapAt (st := st) (tl := tl) (so := so) (d := nI d') n j
  rw [e1, e3, e2]
  by_cases hj : j < n
  · by_cases h : F_due (st j) (tl j) (so j) (nI d) = 0
    · have z : ¬ (j < n ∧ ¬ F_due (st j) (tl j) (so j) (nI d) = 0) := fun w => w.2 h
      rw [if_neg z]
    · have z : j < n ∧ ¬ F_due (st j) (tl j) (so j) (nI d) = 0 := ⟨hj, h⟩
      have z2 : j < n ∧ ¬ F_due (st j) (tl j) (so j) (nI d') = 0 := ⟨hj, q_mono hd hd' h⟩
      have z3 : ¬ (j < n ∧ ¬ F_due 4 (tl j) (so j) (nI d') = 0) := fun w => w.2 (q_due4 _ _ _)
      rw [if_pos z, if_neg z3, if_pos z2]
  · have z1 : ∀ X : Prop, ¬ (j < n ∧ X) := fun X w => hj w.1
    rw [if_neg (z1 _), if_neg (z1 _), if_neg (z1 _)]
theorem q_lapTwoSv {st sv tl so : A32} {n d d' : Nat} (hd : d ≤ d') (hd' : d' < 10000) : F_lapSv (F_lapSt st tl so (nI d) n) (F_lapSv st sv tl so (nI d) n) tl so (nI d') n = F_lapSv st sv tl so (nI d') n := by
  funext j
  have e1 := q_lapSv (st := F_lapSt st tl so (nI d) n) (sv := F_lapSv st sv tl so (nI d) n) (tl := tl) (so := so) (d := nI d') n j
  have e2 := q_lapAt (st := st) (tl := tl) (so := so) (d := nI d) n j
  have e4 := q_lapSv (st := st) (sv := sv) (tl := tl) (so := so) (d := nI d) n j
  have e3 := q_lapSv (st := st) (sv := sv) (tl := tl) (so := so) (d := nI d') n j
  rw [e1, e3, e2, e4]
  by_cases hj : j < n
  · by_cases h : F_due (st j) (tl j) (so j) (nI d) = 0
    · have z : ¬ (j < n ∧ ¬ F_due (st j) (tl j) (so j) (nI d) = 0) := fun w => w.2 h
      rw [if_neg z, if_neg z]
    · have z : j < n ∧ ¬ F_due (st j) (tl j) (so j) (nI d) = 0 := ⟨hj, h⟩
      have z2 : j < n ∧ ¬ F_due (st j) (tl j) (so j) (nI d') = 0 := ⟨hj, q_mono hd hd' h⟩
      have z3 : ¬ (j < n ∧ ¬ F_due 4 (tl j) (so j) (nI d') = 0) := fun w => w.2 (q_due4 _ _ _)
      rw [if_pos z, if_neg z3, if_pos z, if_pos z2]
  · have z1 : ∀ X : Prop, ¬ (j < n ∧ X) := fun X w => hj w.1
    rw [if_neg (z1 _), if_neg (z1 _), if_neg (z1 _)]
theorem q_lapNo {st tl so : A32} {n : Nat} {d : Int32} (h : ∀ i, i < n → F_due (st i) (tl i) (so i) d = 0) : F_lapSt st tl so d n = st := by
  funext j
  rw [q_lapAt, if_neg (fun w => w.2 (h j w.1))]
theorem q_lapNoSv {st sv tl so : A32} {n : Nat} {d : Int32} (h : ∀ i, i < n → F_due (st i) (tl i) (so i) d = 0) : F_lapSv st sv tl so d n = sv := by
  funext j
  rw [q_lapSv, if_neg (fun w => w.2 (h j w.1))]
theorem q_lpSt {st tl so : A32} {td : Int32} {n : Nat} (h : ∀ s k, k < n → G_old s tl so td k = F_due s (tl k) (so k) td) : ∀ m, m ≤ n → G_lpSt st tl so td m = F_lapSt st tl so td m
  | 0, _ => rfl
  | m + 1, hm => by
    rw [G_lpSt, F_lapSt, q_lpSt h m (by omega), h _ m (by omega)]
theorem q_lpSv {st sv tl so : A32} {td : Int32} {n : Nat} (h : ∀ s k, k < n → G_old s tl so td k = F_due s (tl k) (so k) td) : ∀ m, m ≤ n → G_lpSv st sv tl so td m = F_lapSv st sv tl so td m
  | 0, _ => rfl
  | m + 1, hm => by
    rw [G_lpSv, F_lapSv, q_lpSt h m (by omega), q_lpSv h m (by omega), h _ m (by omega)]
theorem q_limAg {st lm ag tl so : A32} {td : Int32} {n : Nat} (hn : n ≤ 40) (h : R_lim st lm ag n) : ∀ m, m ≤ n → R_lim (G_lpSt st tl so td m) lm (G_lpAg st ag tl so td m) n
  | 0, _ => h
  | m + 1, hm => by
    have ih := q_limAg (tl := tl) (so := so) (td := td) hn h m (by omega)
    rw [G_lpSt, G_lpAg]
    by_cases q : G_old (G_lpSt st tl so td m m) tl so td m = 0
    · rw [if_pos q, if_pos q]; exact ih
    · rw [if_neg q, if_neg q]; exact R_lim_lapse hn ih (by omega)
/-! pass: the drift -/
theorem q_goes {px pg : A32} : ∀ m j, G_goes px pg m j = if j < m then px j / 10 else pg j
  | 0, j => by rw [if_neg (Nat.not_lt_zero j)]; rfl
  | m + 1, j => by
    rw [G_goes]
    by_cases e : j = m
    · rw [e, upd_same, if_pos (show m < m + 1 by omega)]
    · rw [upd_other _ _ e, q_goes m j]
      by_cases h : j < m
      · rw [if_pos h, if_pos (by omega)]
      · rw [if_neg h, if_neg (by omega)]
theorem q_drA {px : A32} : ∀ m, (∀ j, (F_drA px m).1 j = if j < m then px j + ((if j = 0 then px 35 / 10 else px (j - 1) / 10) - px j / 10) else px j) ∧ (F_drA px m).2 = if m = 0 then px 35 / 10 else px (m - 1) / 10
  | 0 => ⟨fun j => by rw [if_neg (Nat.not_lt_zero j)]; rfl, rfl⟩
  | m + 1 => by
    obtain ⟨h1, h2⟩ := q_drA (px := px) m
    have hm : (F_drA px m).1 m = px m := by rw [h1 m, if_neg (Nat.lt_irrefl m)]
    refine ⟨fun j => ?_, ?_⟩
    · rw [F_drA]
      show upd (F_drA px m).1 m ((F_drA px m).1 m + ((F_drA px m).2 - (F_drA px m).1 m / 10)) j = _
      rw [hm, h2]
      by_cases e : j = m
      · rw [e, upd_same, if_pos (show m < m + 1 by omega)]
      · rw [upd_other _ _ e, h1 j]
        by_cases h : j < m
        · rw [if_pos h, if_pos (show j < m + 1 by omega)]
        · rw [if_neg h, if_neg (show ¬ j < m + 1 by omega)]
    · rw [F_drA]
      show (F_drA px m).1 m / 10 = _
      rw [hm, if_neg (show ¬ m + 1 = 0 by omega), Nat.add_sub_cancel]
def G_cm (px g : A32) (m j : Nat) : Int32 := if j = 0 then (if m = 0 then px 0 else px 0 - g 0) else if j < m then px j + g (j - 1) - g j else if j = m then px j + g (j - 1) else px j
theorem q_com {px g : A32} : ∀ m, m ≤ 35 → ∀ j, G_comes px g m j = G_cm px g m j
  | 0, _, j => by
    unfold G_cm
    by_cases e : j = 0
    · rw [if_pos e, if_pos rfl, e]; rfl
    · rw [if_neg e, if_neg (Nat.not_lt_zero j), if_neg e]; rfl
  | m + 1, hm, j => by
    have ih := q_com (px := px) (g := g) m (by omega)
    have hC : G_comes px g m = G_cm px g m := funext ih
    have e0 : (m + 1) % 36 = m + 1 := Nat.mod_eq_of_lt (by omega)
    rw [G_comes, e0, hC, upd_other (G_cm px g m) _ (show ¬ m + 1 = m by omega)]
    by_cases e1 : j = m + 1
    · rw [e1, upd_same]
      unfold G_cm
      rw [if_neg (show ¬ m + 1 = 0 by omega), if_neg (show ¬ m + 1 < m by omega), if_neg (show ¬ m + 1 = m by omega), if_neg (show ¬ m + 1 = 0 by omega), if_neg (Nat.lt_irrefl (m + 1)), if_pos rfl, Nat.add_sub_cancel]
    · rw [upd_other _ _ e1]
      by_cases e2 : j = m
      · rw [e2, upd_same]
        unfold G_cm
        by_cases z : m = 0
        · rw [if_pos z, if_pos z, if_pos z, if_neg (show ¬ m + 1 = 0 by omega), z]
        · rw [if_neg z, if_neg (Nat.lt_irrefl m), if_pos rfl, if_neg z, if_pos (show m < m + 1 by omega)]
      · rw [upd_other _ _ e2]
        unfold G_cm
        by_cases z : j = 0
        · rw [if_pos z, if_pos z, if_neg (show ¬ m = 0 by omega), if_neg (show ¬ m + 1 = 0 by omega)]
        · rw [if_neg z, if_neg z]
          by_cases y : j < m
          · rw [if_pos y, if_pos (show j < m + 1 by omega)]
          · rw [if_neg y, if_neg e2, if_neg (show ¬ j < m + 1 by omega), if_neg e1]
theorem q_i32a (a b c : Int32) : a + (b - c) = a - c + b := by
  rw [Int32.sub_eq_add_neg, Int32.sub_eq_add_neg, Int32.add_assoc, Int32.add_comm b (-c)]
theorem q_i32b (a b c : Int32) : a + (b - c) = a + b - c := by
  rw [Int32.sub_eq_add_neg, Int32.sub_eq_add_neg, Int32.add_assoc]
theorem q_drift {px pg : A32} : F_drift px = G_comes px (G_goes px pg 36) 36 := by
  funext j
  have hC : G_comes px (G_goes px pg 36) 35 = G_cm px (G_goes px pg 36) 35 := funext (q_com 35 (Nat.le_refl 35))
  have hg : ∀ i, i < 36 → G_goes px pg 36 i = px i / 10 := fun i hi => by rw [q_goes, if_pos hi]
  unfold F_drift
  rw [(q_drA (px := px) 36).1 j]
  show _ = upd (upd (G_comes px (G_goes px pg 36) 35) 35 (G_comes px (G_goes px pg 36) 35 35 - G_goes px pg 36 35)) ((35 + 1) % 36) (upd (G_comes px (G_goes px pg 36) 35) 35 (G_comes px (G_goes px pg 36) 35 35 - G_goes px pg 36 35) ((35 + 1) % 36) + G_goes px pg 36 35) j
  rw [show (35 + 1) % 36 = 0 from rfl, hC, upd_other (G_cm px (G_goes px pg 36) 35) _ (show ¬ 0 = 35 by decide)]
  by_cases e1 : j = 0
  · rw [e1, upd_same]
    unfold G_cm
    rw [if_pos (show 0 < 36 by decide), if_pos (show 0 = 0 from rfl), if_pos (show 0 = 0 from rfl), if_neg (show ¬ 35 = 0 by decide), hg 0 (by decide), hg 35 (by decide)]
    exact q_i32a _ _ _
  · rw [upd_other _ _ e1, if_neg e1]
    by_cases e2 : j = 35
    · rw [e2, upd_same]
      unfold G_cm
      rw [if_pos (show 35 < 36 by decide), if_neg (show ¬ 35 = 0 by decide), if_neg (show ¬ 35 < 35 by decide), if_pos (show 35 = 35 from rfl), hg 35 (by decide), hg (35 - 1) (by decide)]
      exact q_i32b _ _ _
    · rw [upd_other _ _ e2]
      unfold G_cm
      rw [if_neg e1]
      by_cases y : j < 35
      · rw [if_pos y, if_pos (show j < 36 by omega), hg j (by omega), hg (j - 1) (by omega)]
        exact q_i32b _ _ _
      · rw [if_neg y, if_neg e2, if_neg (show ¬ j < 36 by omega)]
theorem q_dr {a : Nat} (ha : a < 10000) : G_dr (nI a) = if a % 50 = 0 then 1 else 0 := by
  have e : nI a / 50 = nI (a / 50) := pk_div (d := 50) (by omega) (by decide) (by decide)
  have e2 : nI a - nI (a / 50) * 50 = nI (a % 50) := by
    have e3 : nI (a / 50) * 50 = nI (a / 50 * 50) := z_imul rfl rfl
    have e4 : nI a = nI (a % 50) + nI (a / 50 * 50) := by
      rw [z_iadd rfl rfl]
      have := Nat.mod_add_div a 50
      rw [Nat.mul_comm] at this
      rw [this]
    rw [e3, e4]
    exact Int32.add_sub_cancel _ _
  unfold G_dr
  rw [e, e2]
  by_cases h : a % 50 = 0
  · rw [if_pos h, h]; rfl
  · rw [if_neg h, if_neg]
    exact fun q => h ((nI_eq (b := 0) (by omega) (by decide)).mp q)
theorem q_days {st sv tl so lm ag px pg : A32} {n t : Nat} {sl : A32} (hF : R_fil sl st tl so n t) (hL : R_lim st lm ag n) : ∀ j, t + j ≤ 5000 →
    (G_days tl so n (nI t, st, sv, ag, px, pg) j).1 = nI (t + j) ∧ (G_days tl so n (nI t, st, sv, ag, px, pg) j).2.1 = F_lapSt st tl so (nI (t + j)) n ∧ (G_days tl so n (nI t, st, sv, ag, px, pg) j).2.2.1 = F_lapSv st sv tl so (nI (t + j)) n ∧ R_lim (G_days tl so n (nI t, st, sv, ag, px, pg) j).2.1 lm (G_days tl so n (nI t, st, sv, ag, px, pg) j).2.2.2.1 n ∧ (G_days tl so n (nI t, st, sv, ag, px, pg) j).2.2.2.2.1 = F_drifts px ((t + j) / 50 - t / 50)
  | 0, _ => by
    refine ⟨rfl, ?_, ?_, hL, ?_⟩
    · exact (q_lapNo hF.2.2.2.2.2).symm
    · exact (q_lapNoSv hF.2.2.2.2.2).symm
    · rw [Nat.add_zero, Nat.sub_self]; rfl
  | j + 1, hj => by
    obtain ⟨h1, h2, h3, h4, h5⟩ := q_days (sv := sv) (px := px) (pg := pg) hF hL j (by omega)
    rw [G_days]
    generalize G_days tl so n (nI t, st, sv, ag, px, pg) j = S at h1 h2 h3 h4 h5 ⊢
    have e1 : S.1 + 1 = nI (t + (j + 1)) := by rw [h1]; exact nI_add (t + j) 1
    have hold : ∀ s k, k < n → G_old s tl so (nI (t + (j + 1))) k = F_due s (tl k) (so k) (nI (t + (j + 1))) := fun s k hk => by
      obtain ⟨a, ha, ea⟩ := hF.2.2.2.1 k hk
      obtain ⟨b, hb, eb⟩ := hF.2.2.2.2.1 k
      exact q_old ea (by omega) eb (by omega)
    unfold G_pas
    rw [e1]
    refine ⟨rfl, ?_, ?_, q_limAg hF.1 h4 n (Nat.le_refl n), ?_⟩
    · show G_lpSt S.2.1 tl so (nI (t + (j + 1))) n = _
      rw [q_lpSt hold n (Nat.le_refl n), h2]
      exact q_lapTwo (by omega) (by omega)
    · show G_lpSv S.2.1 S.2.2.1 tl so (nI (t + (j + 1))) n = _
      rw [q_lpSv hold n (Nat.le_refl n), h2, h3]
      exact q_lapTwoSv (by omega) (by omega)
    · show F_if (G_dr (nI (t + (j + 1)))) S.2.2.2.2.1 (G_comes S.2.2.2.2.1 (G_goes S.2.2.2.2.1 S.2.2.2.2.2 36) 36) = _
      rw [q_dr (by omega), ← q_drift, h5]
      unfold F_if
      by_cases q : (t + (j + 1)) % 50 = 0
      · rw [if_pos q, if_neg q_10, show (t + (j + 1)) / 50 - t / 50 = ((t + j) / 50 - t / 50) + 1 by omega]
        rfl
      · rw [if_neg q, if_pos rfl, show (t + (j + 1)) / 50 = (t + j) / 50 by omega]
theorem e_pass {x1 td : Int32} (h : E_pass x1 td = 0) : ¬ F_in x1 1 400 = 0 ∧ td + x1 ≤ 5000 := by
  unfold E_pass at h
  refine ⟨?_, Classical.byContradiction ?_⟩ <;> (intro q; (repeat' split at h) <;> first | omega | contradiction)

theorem p_file (k t : Nat) (px : A32) (py : A64) (td : Int32) (ld : A32) (sl : A32) (bd : A32) (pw : A32) (dt : A32) (st : A32) (uc : A32) (sv : A32) (tl : A32) (so : A32) (lm : A32) (n : Nat) (nd : Int32) (ss : A32) (rg : A32) (hw : A32) (ax : A32) (fu : A32) (si : A32) (au : A32) (ns : Nat) (jk : A32) (jd : A32) (js : A32) (jt : A32) (jn : Nat) (ef : Int32) (es : Int32) (el : Int32) (ev : Int32) (et : Int32) (eo : Int32) (ag pg : A32) (x1 : Int32) (x2 : Int32) (x3 : Int32) (x4 : Int32) (hR : ZR k td sl st sv tl so lm n ss hw ax ns jk jd js jt jn ag) (ht : td = nI t) (hk : k < 512) (hE0 : E_file x1 x2 x3 x4 n = 0) : nI (n + 1) - 1 = nI n ∧ upd st n 0 = st ∧ ZR (k + 1) td (upd sl n x2) (upd st n 0) (upd sv n (-1)) (upd tl n td) so (F_lim lm n n) (n + 1) ss hw ax ns (upd jk jn 0) (upd jd jn td) (upd js jn (nI n)) (upd jt jn x2) (jn + 1) (ag) := by
  obtain ⟨h1, h2⟩ := e_file hE0
  obtain ⟨t0, a1, a2, a3, hF, hL, hS, hJ⟩ := id hR
  obtain ⟨g1, g2⟩ := F_in_nat 360 h1 (by decide)
  have hn : n < 40 := by omega
  have est : upd st n 0 = st := upd_id st (hF.2.1 n (Nat.le_refl _))
  have hF2 : R_fil (upd sl n x2) (upd st n 0) (upd tl n td) so (n + 1) t0 := by
    refine ⟨by omega, fun k hk => ?_, fun f hf => ?_, fun f hf => ?_, hF.2.2.2.2.1, fun f hf => ?_⟩
    · rw [est]; exact hF.2.1 k (by omega)
    · by_cases e : f = n
      · rw [e, upd_same]; exact ⟨ix x2, g2, g1⟩
      · rw [upd_other _ _ e]; exact hF.2.2.1 f (by omega)
    · by_cases e : f = n
      · rw [e, upd_same]; exact ⟨t0, Nat.le_refl _, a1⟩
      · rw [upd_other _ _ e]; exact hF.2.2.2.1 f (by omega)
    · by_cases e : f = n
      · rw [e, upd_same, upd_same, a1]; exact q_due0 _ a2
      · rw [upd_other _ _ e, upd_other _ _ e]; exact hF.2.2.2.2.2 f (by omega)
  have hd := hF2.2.2.2.2.2
  rw [← a1] at hd
  refine ⟨nI_pred n, est, t0, a1, a2, by omega, hF2, R_lim_file hn hL, hS, ?_⟩
  have ej : ∀ i, ¬ i = jn → jK (upd jk jn 0) i = jK jk i := fun i hi => by show ix (upd jk jn 0 i) = ix (jk i); rw [upd_other _ _ hi]
  have en : jK (upd jk jn 0) jn = 0 := by show ix (upd jk jn 0 jn) = 0; rw [upd_same]; decide
  refine ⟨fun i hi => ?_, fun i hi h5 => ?_, fun f hf el et eo => ?_⟩
  · by_cases e : i = jn
    · rw [e, en, upd_same]; exact ⟨by decide, by decide⟩
    · rw [ej i e, upd_other _ _ e]; exact hJ.1 i (by omega)
  · by_cases e : i = jn
    · rw [e, upd_same]; exact ⟨n, by omega, rfl⟩
    · rw [ej i e] at h5; rw [upd_other _ _ e]
      obtain ⟨m, hm, z⟩ := hJ.2.1 i (by omega) h5
      exact ⟨m, by omega, z⟩
  · rw [q_note (c := 0) (by decide) (by decide)]
    by_cases e : f = n
    · subst e
      rw [q_fresh hn hJ.2.1 (fun i hi => (hJ.1 i hi).2) el et eo jn (Nat.le_refl _), q_reach0 (T := ((-1), el, (-1), et, eo)) (q_due (-1) et eo td (by decide) (by decide) (by decide))]
      refine q_rowreach ?_ (hd f hf)
      rw [upd_same, upd_same, upd_same, upd_same]
      have e9 : F_hear (nI f) 0 td (nI f) x2 ((-1), el, (-1), et, eo) = (0, x2, -1, td, eo) := by
        unfold F_hear F_hfil
        rw [if_neg (by decide), if_neg (by decide), if_pos rfl, if_pos rfl]
      rw [e9]
      exact ⟨rfl, rfl, rfl, rfl, fun q => absurd q (by decide), fun q => absurd q (by decide)⟩
    · refine q_rowreach ?_ (hd f hf)
      rw [upd_other _ _ e, upd_other _ _ e, upd_other _ _ e, upd_other _ _ e]
      have e9 : ∀ T : T5, F_hear (nI f) 0 td (nI n) x2 T = T := fun T => by
        unfold F_hear
        rw [if_neg (by decide), if_neg (by decide), if_neg (fun z => e ((nI_eq (by omega) (by omega)).mp z).symm)]
      rw [e9]
      exact hJ.2.2 f (by omega) el et eo

theorem p_agree (k t : Nat) (px : A32) (py : A64) (td : Int32) (ld : A32) (sl : A32) (bd : A32) (pw : A32) (dt : A32) (st : A32) (uc : A32) (sv : A32) (tl : A32) (so : A32) (lm : A32) (n : Nat) (nd : Int32) (ss : A32) (rg : A32) (hw : A32) (ax : A32) (fu : A32) (si : A32) (au : A32) (ns : Nat) (jk : A32) (jd : A32) (js : A32) (jt : A32) (jn : Nat) (ef : Int32) (es : Int32) (el : Int32) (ev : Int32) (et : Int32) (eo : Int32) (ag pg : A32) (x1 : Int32) (x2 : Int32) (x3 : Int32) (hR : ZR k td sl st sv tl so lm n ss hw ax ns jk jd js jt jn ag) (ht : td = nI t) (hk : k < 512) (hE0 : E_agree x1 x2 x3 n st bd = 0) : G_free ag (ix x1) (ix x2) = lm ((ix x1) * 40 + (ix x2)) ∧ ZR (k + 1) td sl st sv tl so (upd (upd lm ((ix x1) * 40 + (ix x2)) x3) ((ix x2) * 40 + (ix x1)) x3) n ss hw ax ns jk jd js jt jn (upd (upd ag (40 * (ix x1) + (ix x2)) x3) (40 * (ix x2) + (ix x1)) x3) := by
  obtain ⟨h1, h2, h3, h4, h5, h6⟩ := e_agree hE0
  obtain ⟨t0, a1, a2, a3, hF, hL, hS, hJ⟩ := id hR
  obtain ⟨e1, i1⟩ := F_in_ix h1 hF.1
  obtain ⟨e2, i2⟩ := F_in_ix h2 hF.1
  have hij : ¬ ix x1 = ix x2 := fun q => h3 (by rw [e1, e2, q])
  exact ⟨(hL.2.1 (ix x1) (ix x2) i1 i2 hij h5 h6).symm, t0, a1, a2, Nat.le_succ_of_le a3, hF, R_lim_agree hF.1 hL i1 i2 h4, hS, hJ⟩

theorem p_inform (k t : Nat) (px : A32) (py : A64) (td : Int32) (ld : A32) (sl : A32) (bd : A32) (pw : A32) (dt : A32) (st : A32) (uc : A32) (sv : A32) (tl : A32) (so : A32) (lm : A32) (n : Nat) (nd : Int32) (ss : A32) (rg : A32) (hw : A32) (ax : A32) (fu : A32) (si : A32) (au : A32) (ns : Nat) (jk : A32) (jd : A32) (js : A32) (jt : A32) (jn : Nat) (ef : Int32) (es : Int32) (el : Int32) (ev : Int32) (et : Int32) (eo : Int32) (ag pg : A32) (x1 : Int32) (x2 : Int32) (hR : ZR k td sl st sv tl so lm n ss hw ax ns jk jd js jt jn ag) (ht : td = nI t) (hk : k < 512) (hE0 : E_inform x1 x2 (F_cnt (fun k => F_over bd st sl pw dt lm (ix x1) k) n) n st = 0) : F_keep (G_needs bd st sl pw dt ag (ix x1) n) = F_keep (F_cnt (fun k => F_over bd st sl pw dt lm (ix x1) k) n) ∧ upd uc (ix x1) (F_nz (F_cnt (fun k => F_over bd st sl pw dt lm (ix x1) k) n)) = upd uc (ix x1) (F_nz (G_needs bd st sl pw dt ag (ix x1) n)) ∧ ZR (k + 1) td sl (upd st (ix x1) 1) sv tl so lm n ss hw ax ns (upd jk jn 1) (upd jd jn td) (upd js jn x1) (upd jt jn (-1)) (jn + 1) (ag) := by
  obtain ⟨h1, h2⟩ := e_inform hE0
  obtain ⟨t0, a1, a2, a3, hF, hL, hS, hJ⟩ := id hR
  obtain ⟨e1, i1⟩ := F_in_ix h1 hF.1
  have en := q_needs (bd := bd) (pw := pw) (dt := dt) hF.2.2.1 hL i1 n (Nat.le_refl _)
  have hF2 : R_fil sl (upd st (ix x1) 1) tl so n t0 := R_fil_set hF i1 (fun f hf => ⟨upd_other _ _ hf, rfl, rfl⟩) (hF.2.2.1 _ i1) (hF.2.2.2.2.1 _) (by
    rw [upd_same, q_due01 _ _ (so (ix x1))]
    have h3 := hF.2.2.2.2.2 _ i1
    rw [h2] at h3
    exact h3)
  refine ⟨by rw [en], by rw [en], t0, a1, a2, by omega, hF2, R_lim_st hL (fun f hf q => ?_), hS, R_jou_own hJ hF.1 (c := 1) (by decide) (by decide) i1 e1 (fun f hf q => ⟨upd_other _ _ q, rfl, rfl, rfl, rfl⟩) (fun T hT => ?_) (by rw [a1]; exact hF2.2.2.2.2.2)⟩
  · by_cases e : f = ix x1
    · rw [e, h2]; decide
    · rw [upd_other _ _ e] at q; exact q
  · obtain ⟨r1, r2, r3, r4, r5⟩ := hT
    rw [upd_same]
    exact ⟨rfl, r2, r3, r4, fun q => absurd q (by decide), fun q => absurd q (by decide)⟩

theorem p_change (k t : Nat) (px : A32) (py : A64) (td : Int32) (ld : A32) (sl : A32) (bd : A32) (pw : A32) (dt : A32) (st : A32) (uc : A32) (sv : A32) (tl : A32) (so : A32) (lm : A32) (n : Nat) (nd : Int32) (ss : A32) (rg : A32) (hw : A32) (ax : A32) (fu : A32) (si : A32) (au : A32) (ns : Nat) (jk : A32) (jd : A32) (js : A32) (jt : A32) (jn : Nat) (ef : Int32) (es : Int32) (el : Int32) (ev : Int32) (et : Int32) (eo : Int32) (ag pg : A32) (x1 : Int32) (x2 : Int32) (x3 : Int32) (hR : ZR k td sl st sv tl so lm n ss hw ax ns jk jd js jt jn ag) (ht : td = nI t) (hk : k < 512) (hE0 : E_change x1 x2 x3 n st = 0) : G_keep (fun k => G_harm bd st sl (ix x1) x2 x3 k) (fun k => G_harmOf bd st sl pw (ix x1) k) n = F_keep (F_any (fun k => F_harm bd st sl (ix x1) x2 x3 k) (fun k => F_harmTo bd st sl pw (ix x1) k) n) ∧ F_ifI (F_any (fun k => F_harm bd st sl (ix x1) x2 x3 k) (fun k => F_harmTo bd st sl pw (ix x1) k) n) nd (nd + 1) = F_ifI (G_keep (fun k => G_harm bd st sl (ix x1) x2 x3 k) (fun k => G_harmOf bd st sl pw (ix x1) k) n) (nd + 1) nd ∧ F_if (F_any (fun k => F_harm bd st sl (ix x1) x2 x3 k) (fun k => F_harmTo bd st sl pw (ix x1) k) n) dt (upd dt (ix x1) nd) = F_if (G_keep (fun k => G_harm bd st sl (ix x1) x2 x3 k) (fun k => G_harmOf bd st sl pw (ix x1) k) n) (upd dt (ix x1) nd) dt ∧ ZR (k + 1) td (upd sl (ix x1) x2) (F_if (F_sus st sl (ix x1) x2) st (upd st (ix x1) 3)) (F_if (F_sus st sl (ix x1) x2) sv (upd sv (ix x1) (-1))) tl (F_if (F_sus st sl (ix x1) x2) so (upd so (ix x1) td)) lm n ss hw ax ns (upd jk jn 2) (upd jd jn td) (upd js jn x1) (upd jt jn x2) (jn + 1) (ag) := by
  obtain ⟨h1, h2, h3⟩ := e_change hE0
  obtain ⟨t0, a1, a2, a3, hF, hL, hS, hJ⟩ := id hR
  obtain ⟨e1, i1⟩ := F_in_ix h1 hF.1
  obtain ⟨g1, g2⟩ := F_in_nat 360 h2 (by decide)
  have h10 := q_10
  have K : G_keep (fun k => G_harm bd st sl (ix x1) x2 x3 k) (fun k => G_harmOf bd st sl pw (ix x1) k) n = F_keep (F_any (fun k => F_harm bd st sl (ix x1) x2 x3 k) (fun k => F_harmTo bd st sl pw (ix x1) k) n) := q_keep n (fun k hk => ⟨by
    obtain ⟨d, hd, e⟩ := hF.2.2.1 k hk
    show F_harm bd st sl (ix x1) x2 x3 k = G_harm bd st sl (ix x1) x2 x3 k
    rw [g1]
    exact q_harm bd st sl x3 g2 hd e, q_harmTo hF.2.2.1 i1 hk⟩)
  refine ⟨K, ?_, ?_, ?_⟩
  · rw [K]
    unfold F_ifI F_keep
    by_cases h : F_any (fun k => F_harm bd st sl (ix x1) x2 x3 k) (fun k => F_harmTo bd st sl pw (ix x1) k) n = 0
    · simp only [h, h10, ↓reduceIte]
    · simp only [h, ↓reduceIte]
  · rw [K]
    unfold F_if F_keep
    by_cases h : F_any (fun k => F_harm bd st sl (ix x1) x2 x3 k) (fun k => F_harmTo bd st sl pw (ix x1) k) n = 0
    · simp only [h, h10, ↓reduceIte]
    · simp only [h, ↓reduceIte]
  · by_cases hU : st (ix x1) = 2 ∧ ¬ sl (ix x1) = x2
    · have hS9 : ¬ F_sus st sl (ix x1) x2 = 0 := by unfold F_sus; rw [if_pos hU.1, if_neg hU.2]; exact q_10
      simp only [F_if, hS9, ↓reduceIte]
      have hF2 : R_fil (upd sl (ix x1) x2) (upd st (ix x1) 3) tl (upd so (ix x1) td) n t0 := R_fil_set hF i1 (fun f hf => ⟨upd_other _ _ hf, upd_other _ _ hf, upd_other _ _ hf⟩) ⟨ix x2, g2, by rw [upd_same]; exact g1⟩ ⟨t0, Nat.le_refl _, by rw [upd_same]; exact a1⟩ (by rw [upd_same, upd_same, a1]; exact q_due3 _ a2)
      refine ⟨t0, a1, a2, by omega, hF2, R_lim_st hL (fun f hf q => ?_), hS, R_jou_own hJ hF.1 (c := 2) (by decide) (by decide) i1 e1 (fun f hf q => ⟨upd_other _ _ q, upd_other _ _ q, upd_other _ _ q, rfl, upd_other _ _ q⟩) (fun T hT => ?_) (by have z := hF2.2.2.2.2.2; rw [← a1] at z; exact z)⟩
      · by_cases e : f = ix x1
        · rw [e]; exact h3
        · rw [upd_other _ _ e] at q; exact q
      · obtain ⟨r1, r2, r3, r4, r5⟩ := hT
        rw [upd_same, upd_same, upd_same, upd_same]
        have e : F_hfil 2 td x2 T = (3, x2, -1, T.2.2.2.1, td) := by
          unfold F_hfil
          rw [if_neg (by decide), if_neg (by decide), if_pos rfl, if_pos (r1.trans hU.1), if_neg (fun z => hU.2 (r2.symm.trans z))]
        rw [e]
        exact ⟨rfl, rfl, rfl, r4, fun _ => rfl, fun q => absurd q (by decide)⟩
    · have hS9 : F_sus st sl (ix x1) x2 = 0 := by
        unfold F_sus
        by_cases z : st (ix x1) = 2
        · rw [if_pos z, if_pos (Classical.byContradiction fun w => hU ⟨z, w⟩)]
        · rw [if_neg z]
      simp only [F_if, hS9, ↓reduceIte]
      have hF2 : R_fil (upd sl (ix x1) x2) st tl so n t0 := R_fil_set hF i1 (fun f hf => ⟨rfl, upd_other _ _ hf, rfl⟩) ⟨ix x2, g2, by rw [upd_same]; exact g1⟩ (hF.2.2.2.2.1 _) (hF.2.2.2.2.2 _ i1)
      refine ⟨t0, a1, a2, by omega, hF2, hL, hS, R_jou_own hJ hF.1 (c := 2) (by decide) (by decide) i1 e1 (fun f hf q => ⟨rfl, upd_other _ _ q, rfl, rfl, rfl⟩) (fun T hT => ?_) (by have z := hF2.2.2.2.2.2; rw [← a1] at z; exact z)⟩
      obtain ⟨r1, r2, r3, r4, r5⟩ := hT
      rw [upd_same]
      have e : F_hfil 2 td x2 T = (T.1, x2, T.2.2.1, T.2.2.2.1, T.2.2.2.2) := by
        unfold F_hfil
        rw [if_neg (by decide), if_neg (by decide), if_pos rfl]
        by_cases z : T.1 = 2
        · rw [if_pos z, if_pos (r2.trans (Classical.byContradiction fun w => hU ⟨r1.symm.trans z, w⟩))]
        · rw [if_neg z]
      rw [e]
      exact ⟨r1, rfl, r3, r4, r5⟩

theorem p_withdraw (k t : Nat) (px : A32) (py : A64) (td : Int32) (ld : A32) (sl : A32) (bd : A32) (pw : A32) (dt : A32) (st : A32) (uc : A32) (sv : A32) (tl : A32) (so : A32) (lm : A32) (n : Nat) (nd : Int32) (ss : A32) (rg : A32) (hw : A32) (ax : A32) (fu : A32) (si : A32) (au : A32) (ns : Nat) (jk : A32) (jd : A32) (js : A32) (jt : A32) (jn : Nat) (ef : Int32) (es : Int32) (el : Int32) (ev : Int32) (et : Int32) (eo : Int32) (ag pg : A32) (x1 : Int32) (hR : ZR k td sl st sv tl so lm n ss hw ax ns jk jd js jt jn ag) (ht : td = nI t) (hk : k < 512) (hE0 : E_withdraw x1 n st = 0) : st (ix x1) = st (ix x1) ∧ ZR (k + 1) td sl (upd st (ix x1) 4) (upd sv (ix x1) (-1)) tl so lm n ss hw ax ns (upd jk jn 3) (upd jd jn td) (upd js jn x1) (upd jt jn (-1)) (jn + 1) (G_lapAg ag (ix x1) 40) := by
  obtain ⟨h1, h2⟩ := e_withdraw hE0
  obtain ⟨t0, a1, a2, a3, hF, hL, hS, hJ⟩ := id hR
  obtain ⟨e1, i1⟩ := F_in_ix h1 hF.1
  have hF2 : R_fil sl (upd st (ix x1) 4) tl so n t0 := R_fil_set hF i1 (fun f hf => ⟨upd_other _ _ hf, rfl, rfl⟩) (hF.2.2.1 _ i1) (hF.2.2.2.2.1 _) (by rw [upd_same]; exact q_due4 _ _ _)
  refine ⟨rfl, t0, a1, a2, by omega, hF2, R_lim_lapse hF.1 hL i1, hS, R_jou_own hJ hF.1 (c := 3) (by decide) (by decide) i1 e1 (fun f hf q => ⟨upd_other _ _ q, rfl, upd_other _ _ q, rfl, rfl⟩) (fun T hT => ?_) (by rw [a1]; exact hF2.2.2.2.2.2)⟩
  obtain ⟨r1, r2, r3, r4, r5⟩ := hT
  rw [upd_same, upd_same]
  exact ⟨rfl, r2, rfl, r4, fun q => absurd q (by decide), fun _ => rfl⟩

theorem p_use (k t : Nat) (px : A32) (py : A64) (td : Int32) (ld : A32) (sl : A32) (bd : A32) (pw : A32) (dt : A32) (st : A32) (uc : A32) (sv : A32) (tl : A32) (so : A32) (lm : A32) (n : Nat) (nd : Int32) (ss : A32) (rg : A32) (hw : A32) (ax : A32) (fu : A32) (si : A32) (au : A32) (ns : Nat) (jk : A32) (jd : A32) (js : A32) (jt : A32) (jn : Nat) (ef : Int32) (es : Int32) (el : Int32) (ev : Int32) (et : Int32) (eo : Int32) (ag pg : A32) (x1 : Int32) (x2 : Int32) (hR : ZR k td sl st sv tl so lm n ss hw ax ns jk jd js jt jn ag) (ht : td = nI t) (hk : k < 512) (hE0 : E_use x1 x2 n ns st sl hw ax si td = 0) : G_bears bd (upd st (ix x1) 2) sl pw dt (ix x1) n = F_borne bd (upd st (ix x1) 2) sl pw dt (ix x1) n ∧ ZR (k + 1) td sl (upd st (ix x1) 2) (upd sv (ix x1) x2) tl so lm n ss hw ax ns (upd jk jn 4) (upd jd jn td) (upd js jn x1) (upd jt jn x2) (jn + 1) (ag) := by
  obtain ⟨h1, h2, h3⟩ := e_use hE0
  obtain ⟨t0, a1, a2, a3, hF, hL, hS, hJ⟩ := id hR
  obtain ⟨e1, i1⟩ := F_in_ix h1 hF.1
  have hF2 : R_fil sl (upd st (ix x1) 2) tl so n t0 := R_fil_set hF i1 (fun f hf => ⟨upd_other _ _ hf, rfl, rfl⟩) (hF.2.2.1 _ i1) (hF.2.2.2.2.1 _) (by rw [upd_same]; exact q_due2 _ _ _)
  refine ⟨(q_bears hF.2.2.1 i1 n (Nat.le_refl _)).symm, t0, a1, a2, by omega, hF2, R_lim_st hL (fun f hf q => ?_), hS, R_jou_own hJ hF.1 (c := 4) (by decide) (by decide) i1 e1 (fun f hf q => ⟨upd_other _ _ q, rfl, upd_other _ _ q, rfl, rfl⟩) (fun T hT => ?_) (by rw [a1]; exact hF2.2.2.2.2.2)⟩
  · by_cases e : f = ix x1
    · rw [e]; exact fun z => h3 ⟨by rw [z]; decide, by rw [z]; decide⟩
    · rw [upd_other _ _ e] at q; exact q
  · obtain ⟨r1, r2, r3, r4, r5⟩ := hT
    rw [upd_same, upd_same]
    exact ⟨rfl, r2, rfl, r4, fun q => absurd q (by decide), fun q => absurd q (by decide)⟩

theorem p_complain (k t : Nat) (px : A32) (py : A64) (td : Int32) (ld : A32) (sl : A32) (bd : A32) (pw : A32) (dt : A32) (st : A32) (uc : A32) (sv : A32) (tl : A32) (so : A32) (lm : A32) (n : Nat) (nd : Int32) (ss : A32) (rg : A32) (hw : A32) (ax : A32) (fu : A32) (si : A32) (au : A32) (ns : Nat) (jk : A32) (jd : A32) (js : A32) (jt : A32) (jn : Nat) (ef : Int32) (es : Int32) (el : Int32) (ev : Int32) (et : Int32) (eo : Int32) (ag pg : A32) (x1 : Int32) (x2 : Int32) (hR : ZR k td sl st sv tl so lm n ss hw ax ns jk jd js jt jn ag) (ht : td = nI t) (hk : k < 512) (hE0 : E_complain x1 x2 n st = 0) : G_ends bd st sl pw dt ag uc (ix x1) (ix x2) = F_uph (uc (ix x2)) (F_over bd st sl pw dt lm (ix x2) (ix x1)) ∧ F_if (F_uph (uc (ix x2)) (F_over bd st sl pw dt lm (ix x2) (ix x1))) st (upd st (ix x2) 3) = F_if (G_ends bd st sl pw dt ag uc (ix x1) (ix x2)) st (upd st (ix x2) 3) ∧ F_if (F_uph (uc (ix x2)) (F_over bd st sl pw dt lm (ix x2) (ix x1))) sv (upd sv (ix x2) (-1)) = F_if (G_ends bd st sl pw dt ag uc (ix x1) (ix x2)) sv (upd sv (ix x2) (-1)) ∧ F_if (F_uph (uc (ix x2)) (F_over bd st sl pw dt lm (ix x2) (ix x1))) so (upd so (ix x2) td) = F_if (G_ends bd st sl pw dt ag uc (ix x1) (ix x2)) so (upd so (ix x2) td) ∧ ZR (k + 1) td sl (F_if (F_uph (uc (ix x2)) (F_over bd st sl pw dt lm (ix x2) (ix x1))) st (upd st (ix x2) 3)) (F_if (F_uph (uc (ix x2)) (F_over bd st sl pw dt lm (ix x2) (ix x1))) sv (upd sv (ix x2) (-1))) tl (F_if (F_uph (uc (ix x2)) (F_over bd st sl pw dt lm (ix x2) (ix x1))) so (upd so (ix x2) td)) lm n ss hw ax ns (F_if (F_uph (uc (ix x2)) (F_over bd st sl pw dt lm (ix x2) (ix x1))) jk (upd jk jn 5)) (F_if (F_uph (uc (ix x2)) (F_over bd st sl pw dt lm (ix x2) (ix x1))) jd (upd jd jn td)) (F_if (F_uph (uc (ix x2)) (F_over bd st sl pw dt lm (ix x2) (ix x1))) js (upd js jn x2)) (F_if (F_uph (uc (ix x2)) (F_over bd st sl pw dt lm (ix x2) (ix x1))) jt (upd jt jn (-1))) (F_ifN (F_uph (uc (ix x2)) (F_over bd st sl pw dt lm (ix x2) (ix x1))) jn (jn + 1)) (ag) := by
  obtain ⟨h1, h2, h3⟩ := e_complain hE0
  obtain ⟨t0, a1, a2, a3, hF, hL, hS, hJ⟩ := id hR
  obtain ⟨e1, i1⟩ := F_in_ix h1 hF.1
  obtain ⟨e2, i2⟩ := F_in_ix h2 hF.1
  have eU := q_ends (bd := bd) (pw := pw) (dt := dt) (uc := uc) hF.2.2.1 hL i1 i2
  refine ⟨eU, by rw [eU], by rw [eU], by rw [eU], ?_⟩
  by_cases hU : F_uph (uc (ix x2)) (F_over bd st sl pw dt lm (ix x2) (ix x1)) = 0
  · simp only [F_if, F_ifN, hU, ↓reduceIte]
    exact hR.mono
  · simp only [F_if, F_ifN, hU, ↓reduceIte]
    have hF2 : R_fil sl (upd st (ix x2) 3) tl (upd so (ix x2) td) n t0 := R_fil_set hF i2 (fun f hf => ⟨upd_other _ _ hf, rfl, upd_other _ _ hf⟩) (hF.2.2.1 _ i2) ⟨t0, Nat.le_refl _, by rw [upd_same]; exact a1⟩ (by rw [upd_same, upd_same, a1]; exact q_due3 _ a2)
    refine ⟨t0, a1, a2, by omega, hF2, R_lim_st hL (fun f hf q => ?_), hS, R_jou_own hJ hF.1 (c := 5) (by decide) (by decide) i2 e2 (fun f hf q => ⟨upd_other _ _ q, rfl, upd_other _ _ q, rfl, upd_other _ _ q⟩) (fun T hT => ?_) (by have z := hF2.2.2.2.2.2; rw [← a1] at z; exact z)⟩
    · by_cases e : f = ix x2
      · rw [e, h3]; decide
      · rw [upd_other _ _ e] at q; exact q
    · obtain ⟨r1, r2, r3, r4, r5⟩ := hT
      rw [upd_same, upd_same, upd_same]
      exact ⟨rfl, r2, rfl, r4, fun _ => rfl, fun q => absurd q (by decide)⟩

theorem p_launch (k t : Nat) (px : A32) (py : A64) (td : Int32) (ld : A32) (sl : A32) (bd : A32) (pw : A32) (dt : A32) (st : A32) (uc : A32) (sv : A32) (tl : A32) (so : A32) (lm : A32) (n : Nat) (nd : Int32) (ss : A32) (rg : A32) (hw : A32) (ax : A32) (fu : A32) (si : A32) (au : A32) (ns : Nat) (jk : A32) (jd : A32) (js : A32) (jt : A32) (jn : Nat) (ef : Int32) (es : Int32) (el : Int32) (ev : Int32) (et : Int32) (eo : Int32) (ag pg : A32) (x1 : Int32) (x2 : Int32) (x3 : Int32) (x4 : Int32) (hR : ZR k td sl st sv tl so lm n ss hw ax ns jk jd js jt jn ag) (ht : td = nI t) (hk : k < 512) (hE0 : E_launch x1 x2 x3 ns = 0) : nI (ns + 1) - 1 = nI ns ∧ upd hw ns 0 = hw ∧ ZR (k + 1) td sl st sv tl so lm n (upd ss ns x1) (upd hw ns 0) (upd ax ns x2) (ns + 1) jk jd js jt jn (ag) := by
  obtain ⟨h1, h2, h3⟩ := e_launch hE0
  obtain ⟨t0, a1, a2, a3, hF, hL, hS, hJ⟩ := id hR
  exact ⟨nI_pred ns, upd_id hw (hS.2.1 ns (Nat.le_refl _)), t0, a1, a2, Nat.le_succ_of_le a3, hF, hL, R_sat_add hS (by omega) h2 h1, hJ⟩

theorem p_register (k t : Nat) (px : A32) (py : A64) (td : Int32) (ld : A32) (sl : A32) (bd : A32) (pw : A32) (dt : A32) (st : A32) (uc : A32) (sv : A32) (tl : A32) (so : A32) (lm : A32) (n : Nat) (nd : Int32) (ss : A32) (rg : A32) (hw : A32) (ax : A32) (fu : A32) (si : A32) (au : A32) (ns : Nat) (jk : A32) (jd : A32) (js : A32) (jt : A32) (jn : Nat) (ef : Int32) (es : Int32) (el : Int32) (ev : Int32) (et : Int32) (eo : Int32) (ag pg : A32) (x1 : Int32) (x2 : Int32) (hR : ZR k td sl st sv tl so lm n ss hw ax ns jk jd js jt jn ag) (ht : td = nI t) (hk : k < 512) (hE0 : E_register x1 x2 ns ss = 0) : rg (ix x1) = rg (ix x1) ∧ ZR (k + 1) td sl st sv tl so lm n ss hw ax ns jk jd js jt jn (ag) := ⟨rfl, hR.mono⟩

theorem p_move (k t : Nat) (px : A32) (py : A64) (td : Int32) (ld : A32) (sl : A32) (bd : A32) (pw : A32) (dt : A32) (st : A32) (uc : A32) (sv : A32) (tl : A32) (so : A32) (lm : A32) (n : Nat) (nd : Int32) (ss : A32) (rg : A32) (hw : A32) (ax : A32) (fu : A32) (si : A32) (au : A32) (ns : Nat) (jk : A32) (jd : A32) (js : A32) (jt : A32) (jn : Nat) (ef : Int32) (es : Int32) (el : Int32) (ev : Int32) (et : Int32) (eo : Int32) (ag pg : A32) (x1 : Int32) (x2 : Int32) (hR : ZR k td sl st sv tl so lm n ss hw ax ns jk jd js jt jn ag) (ht : td = nI t) (hk : k < 512) (hE0 : E_move x1 x2 ns hw fu ax = 0) : G_served sv x1 n = F_susN sv x1 n ∧ ZR (k + 1) td sl (F_susSt st sv x1 n) (F_susSv sv x1 n) tl (F_susSo so sv x1 td n) lm n ss hw (upd ax (ix x1) x2) ns (upd jk jn 6) (upd jd jn td) (upd js jn x1) (upd jt jn (-1)) (jn + 1) (ag) := by
  obtain ⟨h1, h2, h3⟩ := e_move hE0
  obtain ⟨t0, a1, a2, a3, hF, hL, hS, hJ⟩ := id hR
  obtain ⟨e1, i1⟩ := F_in_ix h1 (Nat.le_trans hS.1 (by decide))
  obtain ⟨g1, g2⟩ := F_in_nat 360 h2 (by decide)
  have hx : ¬ x1 = -1 := by rw [e1]; exact q_m1 (by have := hS.1; omega)
  have hS2 : R_sat ss hw (upd ax (ix x1) x2) ns := by
    refine ⟨hS.1, hS.2.1, hS.2.2.1, fun f hf q => ?_⟩
    by_cases e : f = ix x1
    · rw [e, upd_same]; exact ⟨ix x2, g2, g1⟩
    · rw [upd_other _ _ e]; exact hS.2.2.2 f hf q
  rw [a1] at hJ ⊢
  exact ⟨(q_served sv x1 n).trans (q_susN sv x1 n).symm, t0, rfl, a2, by omega, R_fil_sus hF a2, R_lim_sus hL (R_jou_srv hJ) hx, hS2, R_jou_dep hJ hF a2 hx⟩

theorem p_bury (k t : Nat) (px : A32) (py : A64) (td : Int32) (ld : A32) (sl : A32) (bd : A32) (pw : A32) (dt : A32) (st : A32) (uc : A32) (sv : A32) (tl : A32) (so : A32) (lm : A32) (n : Nat) (nd : Int32) (ss : A32) (rg : A32) (hw : A32) (ax : A32) (fu : A32) (si : A32) (au : A32) (ns : Nat) (jk : A32) (jd : A32) (js : A32) (jt : A32) (jn : Nat) (ef : Int32) (es : Int32) (el : Int32) (ev : Int32) (et : Int32) (eo : Int32) (ag pg : A32) (x1 : Int32) (hR : ZR k td sl st sv tl so lm n ss hw ax ns jk jd js jt jn ag) (ht : td = nI t) (hk : k < 512) (hE0 : E_bury x1 ns hw fu = 0) : G_served sv x1 n = F_susN sv x1 n ∧ ZR (k + 1) td sl (F_susSt st sv x1 n) (F_susSv sv x1 n) tl (F_susSo so sv x1 td n) lm n ss (upd hw (ix x1) 1) (upd ax (ix x1) (-1)) ns (upd jk jn 6) (upd jd jn td) (upd js jn x1) (upd jt jn (-1)) (jn + 1) (ag) := by
  have h1 := e_bury hE0
  obtain ⟨t0, a1, a2, a3, hF, hL, hS, hJ⟩ := id hR
  obtain ⟨e1, i1⟩ := F_in_ix h1 (Nat.le_trans hS.1 (by decide))
  have hx : ¬ x1 = -1 := by rw [e1]; exact q_m1 (by have := hS.1; omega)
  have hS2 : R_sat ss (upd hw (ix x1) 1) (upd ax (ix x1) (-1)) ns := by
    have h3 := R_sat_hw hS i1 (Or.inl (rfl : (1 : Int32) = 1))
    refine ⟨h3.1, h3.2.1, h3.2.2.1, fun f hf q => ?_⟩
    by_cases e : f = ix x1
    · rw [e, upd_same] at q; exact absurd rfl q
    · rw [upd_other _ _ e]; exact h3.2.2.2 f hf q
  rw [a1] at hJ ⊢
  exact ⟨(q_served sv x1 n).trans (q_susN sv x1 n).symm, t0, rfl, a2, by omega, R_fil_sus hF a2, R_lim_sus hL (R_jou_srv hJ) hx, hS2, R_jou_dep hJ hF a2 hx⟩

theorem p_die (k t : Nat) (px : A32) (py : A64) (td : Int32) (ld : A32) (sl : A32) (bd : A32) (pw : A32) (dt : A32) (st : A32) (uc : A32) (sv : A32) (tl : A32) (so : A32) (lm : A32) (n : Nat) (nd : Int32) (ss : A32) (rg : A32) (hw : A32) (ax : A32) (fu : A32) (si : A32) (au : A32) (ns : Nat) (jk : A32) (jd : A32) (js : A32) (jt : A32) (jn : Nat) (ef : Int32) (es : Int32) (el : Int32) (ev : Int32) (et : Int32) (eo : Int32) (ag pg : A32) (x1 : Int32) (hR : ZR k td sl st sv tl so lm n ss hw ax ns jk jd js jt jn ag) (ht : td = nI t) (hk : k < 512) (hE0 : E_die x1 ns hw = 0) : G_served sv x1 n = F_susN sv x1 n ∧ ZR (k + 1) td sl (F_susSt st sv x1 n) (F_susSv sv x1 n) tl (F_susSo so sv x1 td n) lm n ss (upd hw (ix x1) 2) ax ns (upd jk jn 6) (upd jd jn td) (upd js jn x1) (upd jt jn (-1)) (jn + 1) (ag) := by
  have h1 := e_die hE0
  have h2 : hw (ix x1) = 0 := by
    unfold E_die at hE0
    refine Classical.byContradiction fun q => ?_
    (repeat' split at hE0) <;> first | omega | contradiction
  obtain ⟨t0, a1, a2, a3, hF, hL, hS, hJ⟩ := id hR
  obtain ⟨e1, i1⟩ := F_in_ix h1 (Nat.le_trans hS.1 (by decide))
  have hx : ¬ x1 = -1 := by rw [e1]; exact q_m1 (by have := hS.1; omega)
  rw [a1] at hJ ⊢
  exact ⟨(q_served sv x1 n).trans (q_susN sv x1 n).symm, t0, rfl, a2, by omega, R_fil_sus hF a2, R_lim_sus hL (R_jou_srv hJ) hx, R_sat_hw hS i1 (Or.inr (by rw [h2]; decide)), R_jou_dep hJ hF a2 hx⟩

theorem p_near (k t : Nat) (px : A32) (py : A64) (td : Int32) (ld : A32) (sl : A32) (bd : A32) (pw : A32) (dt : A32) (st : A32) (uc : A32) (sv : A32) (tl : A32) (so : A32) (lm : A32) (n : Nat) (nd : Int32) (ss : A32) (rg : A32) (hw : A32) (ax : A32) (fu : A32) (si : A32) (au : A32) (ns : Nat) (jk : A32) (jd : A32) (js : A32) (jt : A32) (jn : Nat) (ef : Int32) (es : Int32) (el : Int32) (ev : Int32) (et : Int32) (eo : Int32) (ag pg : A32) (x1 : Int32) (x2 : Int32) (hR : ZR k td sl st sv tl so lm n ss hw ax ns jk jd js jt jn ag) (ht : td = nI t) (hk : k < 512) (hE0 : E_near x1 x2 ns hw ax = 0) : G_nearR hw fu au (ix x1) (ix x2) x1 x2 (G_served sv x1 n + G_served (F_susSv sv x1 n) x2 n) = F_nearR hw fu au (ix x1) (ix x2) x1 x2 ∧ F_if (F_nearH hw fu au (ix x1) (ix x2) x1 x2) st (F_susSt (F_susSt st sv x1 n) (F_susSv sv x1 n) x2 n) = F_if (G_hit hw fu au (ix x1) (ix x2) x1 x2) st (F_susSt (F_susSt st sv x1 n) (F_susSv sv x1 n) x2 n) ∧ F_if (F_nearH hw fu au (ix x1) (ix x2) x1 x2) sv (F_susSv (F_susSv sv x1 n) x2 n) = F_if (G_hit hw fu au (ix x1) (ix x2) x1 x2) sv (F_susSv (F_susSv sv x1 n) x2 n) ∧ F_if (F_nearH hw fu au (ix x1) (ix x2) x1 x2) so (F_susSo (F_susSo so sv x1 td n) (F_susSv sv x1 n) x2 td n) = F_if (G_hit hw fu au (ix x1) (ix x2) x1 x2) so (F_susSo (F_susSo so sv x1 td n) (F_susSv sv x1 n) x2 td n) ∧ F_if (F_nearH hw fu au (ix x1) (ix x2) x1 x2) hw (upd (upd hw (ix x1) 2) (ix x2) 2) = F_if (G_hit hw fu au (ix x1) (ix x2) x1 x2) hw (upd (upd hw (ix x1) 2) (ix x2) 2) ∧ F_nearFu hw fu au (ix x1) (ix x2) = G_nearFu hw fu au (ix x1) (ix x2) x1 x2 ∧ F_if (F_nearH hw fu au (ix x1) (ix x2) x1 x2) px (upd px (ix (ax (ix x1) / 10)) (px (ix (ax (ix x1) / 10)) + 100)) = F_if (G_hit hw fu au (ix x1) (ix x2) x1 x2) px (upd px (ix (ax (ix x1) / 10)) (px (ix (ax (ix x1) / 10)) + 100)) ∧ ZR (k + 1) td sl (F_if (F_nearH hw fu au (ix x1) (ix x2) x1 x2) st (F_susSt (F_susSt st sv x1 n) (F_susSv sv x1 n) x2 n)) (F_if (F_nearH hw fu au (ix x1) (ix x2) x1 x2) sv (F_susSv (F_susSv sv x1 n) x2 n)) tl (F_if (F_nearH hw fu au (ix x1) (ix x2) x1 x2) so (F_susSo (F_susSo so sv x1 td n) (F_susSv sv x1 n) x2 td n)) lm n ss (F_if (F_nearH hw fu au (ix x1) (ix x2) x1 x2) hw (upd (upd hw (ix x1) 2) (ix x2) 2)) ax ns (F_if (F_nearH hw fu au (ix x1) (ix x2) x1 x2) jk (upd jk jn 7)) (F_if (F_nearH hw fu au (ix x1) (ix x2) x1 x2) jd (upd jd jn td)) (F_if (F_nearH hw fu au (ix x1) (ix x2) x1 x2) js (upd js jn x1)) (F_if (F_nearH hw fu au (ix x1) (ix x2) x1 x2) jt (upd jt jn x2)) (F_ifN (F_nearH hw fu au (ix x1) (ix x2) x1 x2) jn (jn + 1)) (ag) := by
  obtain ⟨h1, h2, h3, h4, h5⟩ := e_near hE0
  obtain ⟨t0, a1, a2, a3, hF, hL, hS, hJ⟩ := id hR
  have hns : ns ≤ 40 := Nat.le_trans hS.1 (by decide)
  obtain ⟨e1, i1⟩ := F_in_ix h1 hns
  obtain ⟨e2, i2⟩ := F_in_ix h2 hns
  have b1 : ix x1 < 16 := Nat.lt_of_lt_of_le i1 hS.1
  have b2 : ix x2 < 16 := Nat.lt_of_lt_of_le i2 hS.1
  have hx : ¬ x1 = -1 := by rw [e1]; exact q_m1 (by omega)
  have hy : ¬ x2 = -1 := by rw [e2]; exact q_m1 (by omega)
  have hH : G_hit hw fu au (ix x1) (ix x2) x1 x2 = F_nearH hw fu au (ix x1) (ix x2) x1 x2 := by
    have z := q_hit hw fu au b1 b2
    rw [← e1, ← e2] at z
    exact z
  have hFu : F_nearFu hw fu au (ix x1) (ix x2) = G_nearFu hw fu au (ix x1) (ix x2) x1 x2 := by
    have z := q_nearFu hw fu au b1 b2
    rw [← e1, ← e2] at z
    exact z
  have hRr : G_nearR hw fu au (ix x1) (ix x2) x1 x2 (G_served sv x1 n + G_served (F_susSv sv x1 n) x2 n) = F_nearR hw fu au (ix x1) (ix x2) x1 x2 := by
    have z := q_nearR hw fu au b1 b2 (c := G_served sv x1 n + G_served (F_susSv sv x1 n) x2 n) (fun w => q_all hF.1)
    rw [← e1, ← e2] at z
    exact z
  refine ⟨hRr, by rw [hH], by rw [hH], by rw [hH], by rw [hH], hFu, by rw [hH], ?_⟩
  by_cases hU : F_nearH hw fu au (ix x1) (ix x2) x1 x2 = 0
  · simp only [F_if, F_ifN, hU, ↓reduceIte]
    exact hR.mono
  · simp only [F_if, F_ifN, hU, ↓reduceIte]
    rw [a1] at hJ ⊢
    have hF2 := R_fil_sus (sv := F_susSv sv x1 n) (x := x2) (R_fil_sus (sv := sv) (x := x1) hF a2) a2
    have srv := R_jou_srv hJ
    have hL2 := R_lim_sus (sv := F_susSv sv x1 n) (x := x2) (R_lim_sus (sv := sv) (x := x1) hL srv hx) (fun f hf s4 => by
      rw [q_susSt] at s4
      rw [q_susSv]
      by_cases z : f < n ∧ sv f = x1
      · rw [if_pos z]
      · rw [if_neg z] at s4 ⊢
        exact srv f hf s4) hy
    have hS2 := R_sat_hw (v := 2) (R_sat_hw (v := 2) hS i1 (Or.inr h4)) i2 (Or.inr (by
      by_cases z : ix x2 = ix x1
      · rw [z, upd_same]; decide
      · rw [upd_other _ _ z]; exact h5))
    exact ⟨t0, rfl, a2, by omega, hF2, hL2, hS2, R_jou_col hJ hF2 hx hy⟩

theorem p_claim (k t : Nat) (px : A32) (py : A64) (td : Int32) (ld : A32) (sl : A32) (bd : A32) (pw : A32) (dt : A32) (st : A32) (uc : A32) (sv : A32) (tl : A32) (so : A32) (lm : A32) (n : Nat) (nd : Int32) (ss : A32) (rg : A32) (hw : A32) (ax : A32) (fu : A32) (si : A32) (au : A32) (ns : Nat) (jk : A32) (jd : A32) (js : A32) (jt : A32) (jn : Nat) (ef : Int32) (es : Int32) (el : Int32) (ev : Int32) (et : Int32) (eo : Int32) (ag pg : A32) (x1 : Int32) (x2 : Int32) (x3 : Int32) (x4 : Int32) (hR : ZR k td sl st sv tl so lm n ss hw ax ns jk jd js jt jn ag) (ht : td = nI t) (hk : k < 512) (hE0 : E_claim x1 x2 ns = 0) : F_ifI (G_cl x3 x4) 0 (G_many (ss (ix x1)) 8 * G_share (ss (ix x1)) x2) = F_ifI (F_claims (ss (ix x1)) x3 x4) 0 ((F_share (ss (ix x1)) x2) * F_bit (ss (ix x1))) ∧ F_if6 (F_claims (ss (ix x1)) x3 x4) py (F_pay (ss (ix x1)) (F_share (ss (ix x1)) x2) py 8) = F_if6 (G_cl x3 x4) py (G_pay (ss (ix x1)) (G_share (ss (ix x1)) x2) py 8) ∧ ZR (k + 1) td sl st sv tl so lm n ss hw ax ns jk jd js jt jn (ag) := by
  have h1 := e_claim hE0
  obtain ⟨t0, a1, a2, a3, hF, hL, hS, hJ⟩ := id hR
  obtain ⟨c, c1, c2, ec⟩ := hS.2.2.1 (ix x1) (F_in_ix h1 (Nat.le_trans hS.1 (by decide))).2
  have e1 : F_bit (ss (ix x1)) = G_many (ss (ix x1)) 8 := by rw [ec]; exact q_low c c2 c1
  have e2 : F_share (ss (ix x1)) x2 = G_share (ss (ix x1)) x2 := by unfold F_share G_share; rw [e1]
  have e3 : F_claims (ss (ix x1)) x3 x4 = G_cl x3 x4 := by
    unfold F_claims G_cl
    rw [if_neg (show ¬ F_bit (ss (ix x1)) = 0 by rw [ec]; exact q_bitnz c c2 c1)]
  refine ⟨?_, ?_, hR.mono⟩
  · rw [e3, e2, e1, Int32.mul_comm]
  · rw [e3, e2, q_pay]

theorem p_pass (k t : Nat) (px : A32) (py : A64) (td : Int32) (ld : A32) (sl : A32) (bd : A32) (pw : A32) (dt : A32) (st : A32) (uc : A32) (sv : A32) (tl : A32) (so : A32) (lm : A32) (n : Nat) (nd : Int32) (ss : A32) (rg : A32) (hw : A32) (ax : A32) (fu : A32) (si : A32) (au : A32) (ns : Nat) (jk : A32) (jd : A32) (js : A32) (jt : A32) (jn : Nat) (ef : Int32) (es : Int32) (el : Int32) (ev : Int32) (et : Int32) (eo : Int32) (ag pg : A32) (x1 : Int32) (hR : ZR k td sl st sv tl so lm n ss hw ax ns jk jd js jt jn ag) (ht : td = nI t) (ht5 : t ≤ 5000) (hk : k < 512) (hE0 : E_pass x1 td = 0) : (G_days tl so n (td, st, sv, ag, px, pg) (ix x1)).1 = td + x1 ∧ td + x1 = (G_days tl so n (td, st, sv, ag, px, pg) (ix x1)).1 ∧ F_lapSt st tl so (td + x1) n = (G_days tl so n (td, st, sv, ag, px, pg) (ix x1)).2.1 ∧ F_lapSv st sv tl so (td + x1) n = (G_days tl so n (td, st, sv, ag, px, pg) (ix x1)).2.2.1 ∧ F_drifts px ((t + ix x1) / 50 - t / 50) = (G_days tl so n (td, st, sv, ag, px, pg) (ix x1)).2.2.2.2.1 ∧ ZR (k + 1) (td + x1) sl (F_lapSt st tl so (td + x1) n) (F_lapSv st sv tl so (td + x1) n) tl so lm n ss hw ax ns jk jd js jt jn ((G_days tl so n (td, st, sv, ag, px, pg) (ix x1)).2.2.2.1) := by
  obtain ⟨h1, h2⟩ := e_pass hE0
  obtain ⟨t0, a1, a2, a3, hF, hL, hS, hJ⟩ := hR
  have ht0 : t0 = t := (nI_eq (by omega) (by omega)).mp (a1.symm.trans ht)
  rw [ht0] at hF
  obtain ⟨b1, b2, b3⟩ := F_in_natL 401 h1 (by decide) (by decide)
  subst ht
  have e : nI t + x1 = nI (t + ix x1) := by
    conv => lhs; rw [b1]
    exact nI_add t (ix x1)
  rw [e] at h2 ⊢
  have h3 : t + ix x1 ≤ 5000 := by
    rw [z_le, nI_toInt (by omega)] at h2
    have : (5000 : Int32).toInt = 5000 := by decide
    omega
  obtain ⟨d1, d2, d3, d4, d5⟩ := q_days (sv := sv) (px := px) (pg := pg) hF hL (ix x1) h3
  refine ⟨d1, d1.symm, d2.symm, d3.symm, d5.symm, t + ix x1, rfl, h3, Nat.le_succ_of_le a3, R_fil_pass hF (by omega), ?_, hS, R_jou_pass hJ (by omega) (by omega)⟩
  rw [← d2]
  exact d4

theorem p_filingOf (k t : Nat) (px : A32) (py : A64) (td : Int32) (ld : A32) (sl : A32) (bd : A32) (pw : A32) (dt : A32) (st : A32) (uc : A32) (sv : A32) (tl : A32) (so : A32) (lm : A32) (n : Nat) (nd : Int32) (ss : A32) (rg : A32) (hw : A32) (ax : A32) (fu : A32) (si : A32) (au : A32) (ns : Nat) (jk : A32) (jd : A32) (js : A32) (jt : A32) (jn : Nat) (ef : Int32) (es : Int32) (el : Int32) (ev : Int32) (et : Int32) (eo : Int32) (ag pg : A32) (x1 : Int32) (x2 : Int32) (hR : ZR k td sl st sv tl so lm n ss hw ax ns jk jd js jt jn ag) (ht : td = nI t) (hk : k < 512) (hE0 : E_filingOf x1 x2 n = 0) : G_fof ld sl bd pw dt st uc sv tl so (ix x1) (ix x2) = F_fof ld sl bd pw dt st uc sv tl so (ix x1) (ix x2) ∧ ZR (k + 1) td sl st sv tl so lm n ss hw ax ns jk jd js jt jn (ag) := ⟨q_fof _ _ _ _ _ _ _ _ _ _ _ _, hR.mono⟩

theorem p_stateAnew (k t : Nat) (px : A32) (py : A64) (td : Int32) (ld : A32) (sl : A32) (bd : A32) (pw : A32) (dt : A32) (st : A32) (uc : A32) (sv : A32) (tl : A32) (so : A32) (lm : A32) (n : Nat) (nd : Int32) (ss : A32) (rg : A32) (hw : A32) (ax : A32) (fu : A32) (si : A32) (au : A32) (ns : Nat) (jk : A32) (jd : A32) (js : A32) (jt : A32) (jn : Nat) (ef : Int32) (es : Int32) (el : Int32) (ev : Int32) (et : Int32) (eo : Int32) (ag pg : A32) (x1 : Int32) (hR : ZR k td sl st sv tl so lm n ss hw ax ns jk jd js jt jn ag) (ht : td = nI t) (hk : k < 512) (hE0 : E_one x1 n = 0) : st (ix x1) = (F_reach td (F_exam x1 (jK jk) jd js jt ((-1), el, (-1), et, eo) jn)).1 ∧ ZR (k + 1) td sl st sv tl so lm n ss hw ax ns jk jd js jt jn (ag) := by
  have h1 := e_one hE0
  obtain ⟨t0, a1, a2, a3, hF, hL, hS, hJ⟩ := id hR
  obtain ⟨e, i1⟩ := F_in_ix h1 hF.1
  refine ⟨?_, hR.mono⟩
  have h2 := (hJ.2.2 (ix x1) i1 el et eo).1
  rw [← e] at h2
  exact h2.symm

theorem p_harm (k t : Nat) (px : A32) (py : A64) (td : Int32) (ld : A32) (sl : A32) (bd : A32) (pw : A32) (dt : A32) (st : A32) (uc : A32) (sv : A32) (tl : A32) (so : A32) (lm : A32) (n : Nat) (nd : Int32) (ss : A32) (rg : A32) (hw : A32) (ax : A32) (fu : A32) (si : A32) (au : A32) (ns : Nat) (jk : A32) (jd : A32) (js : A32) (jt : A32) (jn : Nat) (ef : Int32) (es : Int32) (el : Int32) (ev : Int32) (et : Int32) (eo : Int32) (ag pg : A32) (x1 : Int32) (x2 : Int32) (hR : ZR k td sl st sv tl so lm n ss hw ax ns jk jd js jt jn ag) (ht : td = nI t) (hk : k < 512) (hE0 : E_two x1 x2 n = 0) : G_harmOf bd st sl pw (ix x1) (ix x2) = F_harmTo bd st sl pw (ix x1) (ix x2) ∧ ZR (k + 1) td sl st sv tl so lm n ss hw ax ns jk jd js jt jn (ag) := by
  obtain ⟨h1, h2⟩ := e_two hE0
  obtain ⟨t0, a1, a2, a3, hF, hL, hS, hJ⟩ := id hR
  exact ⟨(q_harmTo hF.2.2.1 (F_in_ix h1 hF.1).2 (F_in_ix h2 hF.1).2).symm, hR.mono⟩

theorem p_allowed (k t : Nat) (px : A32) (py : A64) (td : Int32) (ld : A32) (sl : A32) (bd : A32) (pw : A32) (dt : A32) (st : A32) (uc : A32) (sv : A32) (tl : A32) (so : A32) (lm : A32) (n : Nat) (nd : Int32) (ss : A32) (rg : A32) (hw : A32) (ax : A32) (fu : A32) (si : A32) (au : A32) (ns : Nat) (jk : A32) (jd : A32) (js : A32) (jt : A32) (jn : Nat) (ef : Int32) (es : Int32) (el : Int32) (ev : Int32) (et : Int32) (eo : Int32) (ag pg : A32) (x1 : Int32) (x2 : Int32) (hR : ZR k td sl st sv tl so lm n ss hw ax ns jk jd js jt jn ag) (ht : td = nI t) (hk : k < 512) (hE0 : E_two x1 x2 n = 0) : G_allow dt st ag (ix x1) (ix x2) = F_allow dt st lm (ix x1) (ix x2) ∧ ZR (k + 1) td sl st sv tl so lm n ss hw ax ns jk jd js jt jn (ag) := by
  obtain ⟨h1, h2⟩ := e_two hE0
  obtain ⟨t0, a1, a2, a3, hF, hL, hS, hJ⟩ := id hR
  exact ⟨q_allow hL (F_in_ix h1 hF.1).2 (F_in_ix h2 hF.1).2, hR.mono⟩

theorem p_needs (k t : Nat) (px : A32) (py : A64) (td : Int32) (ld : A32) (sl : A32) (bd : A32) (pw : A32) (dt : A32) (st : A32) (uc : A32) (sv : A32) (tl : A32) (so : A32) (lm : A32) (n : Nat) (nd : Int32) (ss : A32) (rg : A32) (hw : A32) (ax : A32) (fu : A32) (si : A32) (au : A32) (ns : Nat) (jk : A32) (jd : A32) (js : A32) (jt : A32) (jn : Nat) (ef : Int32) (es : Int32) (el : Int32) (ev : Int32) (et : Int32) (eo : Int32) (ag pg : A32) (x1 : Int32) (hR : ZR k td sl st sv tl so lm n ss hw ax ns jk jd js jt jn ag) (ht : td = nI t) (hk : k < 512) (hE0 : E_one x1 n = 0) : G_needs bd st sl pw dt ag (ix x1) n = F_cnt (fun k => F_over bd st sl pw dt lm (ix x1) k) n ∧ ZR (k + 1) td sl st sv tl so lm n ss hw ax ns jk jd js jt jn (ag) := by
  have h1 := e_one hE0
  obtain ⟨t0, a1, a2, a3, hF, hL, hS, hJ⟩ := id hR
  exact ⟨(q_needs hF.2.2.1 hL (F_in_ix h1 hF.1).2 n (Nat.le_refl _)).symm, hR.mono⟩

theorem p_bears (k t : Nat) (px : A32) (py : A64) (td : Int32) (ld : A32) (sl : A32) (bd : A32) (pw : A32) (dt : A32) (st : A32) (uc : A32) (sv : A32) (tl : A32) (so : A32) (lm : A32) (n : Nat) (nd : Int32) (ss : A32) (rg : A32) (hw : A32) (ax : A32) (fu : A32) (si : A32) (au : A32) (ns : Nat) (jk : A32) (jd : A32) (js : A32) (jt : A32) (jn : Nat) (ef : Int32) (es : Int32) (el : Int32) (ev : Int32) (et : Int32) (eo : Int32) (ag pg : A32) (x1 : Int32) (hR : ZR k td sl st sv tl so lm n ss hw ax ns jk jd js jt jn ag) (ht : td = nI t) (hk : k < 512) (hE0 : E_one x1 n = 0) : G_bears bd st sl pw dt (ix x1) n = F_borne bd st sl pw dt (ix x1) n ∧ ZR (k + 1) td sl st sv tl so lm n ss hw ax ns jk jd js jt jn (ag) := by
  have h1 := e_one hE0
  obtain ⟨t0, a1, a2, a3, hF, hL, hS, hJ⟩ := id hR
  exact ⟨(q_bears hF.2.2.1 (F_in_ix h1 hF.1).2 n (Nat.le_refl _)).symm, hR.mono⟩

theorem p_first (k t : Nat) (px : A32) (py : A64) (td : Int32) (ld : A32) (sl : A32) (bd : A32) (pw : A32) (dt : A32) (st : A32) (uc : A32) (sv : A32) (tl : A32) (so : A32) (lm : A32) (n : Nat) (nd : Int32) (ss : A32) (rg : A32) (hw : A32) (ax : A32) (fu : A32) (si : A32) (au : A32) (ns : Nat) (jk : A32) (jd : A32) (js : A32) (jt : A32) (jn : Nat) (ef : Int32) (es : Int32) (el : Int32) (ev : Int32) (et : Int32) (eo : Int32) (ag pg : A32) (x1 : Int32) (x2 : Int32) (hR : ZR k td sl st sv tl so lm n ss hw ax ns jk jd js jt jn ag) (ht : td = nI t) (hk : k < 512) (hE0 : E_first x1 x2 = 0) : G_fst bd st sl dt x1 x2 n = F_fst bd st sl dt x1 x2 n ∧ ZR (k + 1) td sl st sv tl so lm n ss hw ax ns jk jd js jt jn (ag) := ⟨q_fst _ _ _ _ _ _ _, hR.mono⟩

theorem p_satelliteOf (k t : Nat) (px : A32) (py : A64) (td : Int32) (ld : A32) (sl : A32) (bd : A32) (pw : A32) (dt : A32) (st : A32) (uc : A32) (sv : A32) (tl : A32) (so : A32) (lm : A32) (n : Nat) (nd : Int32) (ss : A32) (rg : A32) (hw : A32) (ax : A32) (fu : A32) (si : A32) (au : A32) (ns : Nat) (jk : A32) (jd : A32) (js : A32) (jt : A32) (jn : Nat) (ef : Int32) (es : Int32) (el : Int32) (ev : Int32) (et : Int32) (eo : Int32) (ag pg : A32) (x1 : Int32) (x2 : Int32) (hR : ZR k td sl st sv tl so lm n ss hw ax ns jk jd js jt jn ag) (ht : td = nI t) (hk : k < 512) (hE0 : E_satelliteOf x1 x2 ns = 0) : F_sof ss rg hw ax fu si td (G_served sv x1 n) (ix x1) (ix x2) = F_sof ss rg hw ax fu si td (F_served sv x1 n) (ix x1) (ix x2) ∧ ZR (k + 1) td sl st sv tl so lm n ss hw ax ns jk jd js jt jn (ag) := by
  refine ⟨?_, hR.mono⟩
  rw [q_served]

theorem p_pieces (k t : Nat) (px : A32) (py : A64) (td : Int32) (ld : A32) (sl : A32) (bd : A32) (pw : A32) (dt : A32) (st : A32) (uc : A32) (sv : A32) (tl : A32) (so : A32) (lm : A32) (n : Nat) (nd : Int32) (ss : A32) (rg : A32) (hw : A32) (ax : A32) (fu : A32) (si : A32) (au : A32) (ns : Nat) (jk : A32) (jd : A32) (js : A32) (jt : A32) (jn : Nat) (ef : Int32) (es : Int32) (el : Int32) (ev : Int32) (et : Int32) (eo : Int32) (ag pg : A32) (x1 : Int32) (hR : ZR k td sl st sv tl so lm n ss hw ax ns jk jd js jt jn ag) (ht : td = nI t) (hk : k < 512) (hE0 : E_rng x1 35 = 0) : px (ix x1) = px (ix x1) ∧ ZR (k + 1) td sl st sv tl so lm n ss hw ax ns jk jd js jt jn (ag) := ⟨rfl, hR.mono⟩

theorem p_paid (k t : Nat) (px : A32) (py : A64) (td : Int32) (ld : A32) (sl : A32) (bd : A32) (pw : A32) (dt : A32) (st : A32) (uc : A32) (sv : A32) (tl : A32) (so : A32) (lm : A32) (n : Nat) (nd : Int32) (ss : A32) (rg : A32) (hw : A32) (ax : A32) (fu : A32) (si : A32) (au : A32) (ns : Nat) (jk : A32) (jd : A32) (js : A32) (jt : A32) (jn : Nat) (ef : Int32) (es : Int32) (el : Int32) (ev : Int32) (et : Int32) (eo : Int32) (ag pg : A32) (x1 : Int32) (hR : ZR k td sl st sv tl so lm n ss hw ax ns jk jd js jt jn ag) (ht : td = nI t) (hk : k < 512) (hE0 : E_rng x1 7 = 0) : py (ix x1) = py (ix x1) ∧ ZR (k + 1) td sl st sv tl so lm n ss hw ax ns jk jd js jt jn (ag) := ⟨rfl, hR.mono⟩

theorem pE_inform (k : Nat) (px : A32) (py : A64) (td : Int32) (ld : A32) (sl : A32) (bd : A32) (pw : A32) (dt : A32) (st : A32) (uc : A32) (sv : A32) (tl : A32) (so : A32) (lm : A32) (n : Nat) (nd : Int32) (ss : A32) (rg : A32) (hw : A32) (ax : A32) (fu : A32) (si : A32) (au : A32) (ns : Nat) (jk : A32) (jd : A32) (js : A32) (jt : A32) (jn : Nat) (ef : Int32) (es : Int32) (el : Int32) (ev : Int32) (et : Int32) (eo : Int32) (ag : A32) (x1 : Int32) (x2 : Int32) (hR : ZR k td sl st sv tl so lm n ss hw ax ns jk jd js jt jn ag) : E_inform x1 x2 (G_needs bd st sl pw dt ag (ix x1) n) n st = E_inform x1 x2 (F_cnt (fun k => F_over bd st sl pw dt lm (ix x1) k) n) n st := by
  obtain ⟨t0, a1, a2, a3, hF, hL, hS, hJ⟩ := id hR
  unfold E_inform
  by_cases h1 : F_in x1 0 (nI n - 1) = 0
  · rw [if_pos h1, if_pos h1]
  · rw [q_needs hF.2.2.1 hL (F_in_ix h1 hF.1).2 n (Nat.le_refl _)]

