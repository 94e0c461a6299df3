abbrev zt (cI cJ cZ : ClassId) : zTy := [(cI, .int), (cJ, .long), (cZ, .boolean)]
abbrev wOr (cI cJ cZ : ClassId) (a : Nat → Nat) (px : A32) (py : A64) (td : Int32) : va_W := [(a 0, .inr (4, [.ref (a 3), .ref (a 15), .ref (a 23), .ref (a 28), .ref (a 1), .ref (a 2), .int td])), (a 1, .inl (cI, 36, .inl px)), (a 2, .inl (cJ, 8, .inr (.inl py)))]
abbrev wFi (cI cJ cZ : ClassId) (a : Nat → Nat) (ld : A32) (sl : A32) (bd : A32) (pw : A32) (dt : A32) (st : A32) (uc : A32) (sv : A32) (tl : A32) (so : A32) (lm : A32) (n : Nat) (nd : Int32) : va_W := [(a 3, .inr (1, [.ref (a 4), .ref (a 5), .ref (a 6), .ref (a 7), .ref (a 8), .ref (a 9), .ref (a 10), .ref (a 11), .ref (a 12), .ref (a 13), .ref (a 14), .int (nI n), .int nd])), (a 4, .inl (cI, 40, .inl ld)), (a 5, .inl (cI, 40, .inl sl)), (a 6, .inl (cI, 40, .inl bd)), (a 7, .inl (cI, 40, .inl pw)), (a 8, .inl (cI, 40, .inl dt)), (a 9, .inl (cI, 40, .inl st)), (a 10, .inl (cZ, 40, .inl uc)), (a 11, .inl (cI, 40, .inl sv)), (a 12, .inl (cI, 40, .inl tl)), (a 13, .inl (cI, 40, .inl so)), (a 14, .inl (cI, 1600, .inl lm))]
abbrev wSa (cI cJ cZ : ClassId) (a : Nat → Nat) (ss : A32) (rg : A32) (hw : A32) (ax : A32) (fu : A32) (si : A32) (au : A32) (ns : Nat) : va_W := [(a 15, .inr (3, [.ref (a 16), .ref (a 17), .ref (a 18), .ref (a 19), .ref (a 20), .ref (a 21), .ref (a 22), .int (nI ns)])), (a 16, .inl (cI, 16, .inl ss)), (a 17, .inl (cI, 16, .inl rg)), (a 18, .inl (cI, 16, .inl hw)), (a 19, .inl (cI, 16, .inl ax)), (a 20, .inl (cI, 16, .inl fu)), (a 21, .inl (cI, 16, .inl si)), (a 22, .inl (cZ, 16, .inl au))]
abbrev wJo (cI cJ cZ : ClassId) (a : Nat → Nat) (jk : A32) (jd : A32) (js : A32) (jt : A32) (jn : Nat) : va_W := [(a 23, .inr (2, [.ref (a 24), .ref (a 25), .ref (a 26), .ref (a 27), .int (nI jn)])), (a 24, .inl (cI, 512, .inl jk)), (a 25, .inl (cI, 512, .inl jd)), (a 26, .inl (cI, 512, .inl js)), (a 27, .inl (cI, 512, .inl jt))]
abbrev wEx (cI cJ cZ : ClassId) (a : Nat → Nat) (ef : Int32) (es : Int32) (el : Int32) (ev : Int32) (et : Int32) (eo : Int32) : va_W := [(a 28, .inr (0, [.int ef, .int es, .int el, .int ev, .int et, .int eo]))]
abbrev wMo (cI cJ cZ : ClassId) (a : Nat → Nat) (th : Int32) (td : Int32) (nd : Int32) (n : Nat) (ld : A32) (sl : A32) (bd : A32) (pw : A32) (dt : A32) (st : A32) (uc : A32) (sv : A32) (tl : A32) (so : A32) (ag : A32) (ns : Nat) (ss : A32) (rg : A32) (hw : A32) (ax : A32) (fu : A32) (si : A32) (au : A32) (px : A32) (pg : A32) (py : A64) : va_W := [(a 30, .inr (5, [.int th, .int td, .int nd, .int (nI n), .ref (a 31), .ref (a 32), .ref (a 33), .ref (a 34), .ref (a 35), .ref (a 36), .ref (a 37), .ref (a 38), .ref (a 39), .ref (a 40), .ref (a 41), .int (nI ns), .ref (a 42), .ref (a 43), .ref (a 44), .ref (a 45), .ref (a 46), .ref (a 47), .ref (a 48), .ref (a 49), .ref (a 50), .ref (a 51)])), (a 31, .inl (cI, 40, .inl ld)), (a 32, .inl (cI, 40, .inl sl)), (a 33, .inl (cI, 40, .inl bd)), (a 34, .inl (cI, 40, .inl pw)), (a 35, .inl (cI, 40, .inl dt)), (a 36, .inl (cI, 40, .inl st)), (a 37, .inl (cZ, 40, .inl uc)), (a 38, .inl (cI, 40, .inl sv)), (a 39, .inl (cI, 40, .inl tl)), (a 40, .inl (cI, 40, .inl so)), (a 41, .inl (cI, 1600, .inl ag)), (a 42, .inl (cI, 16, .inl ss)), (a 43, .inl (cI, 16, .inl rg)), (a 44, .inl (cI, 16, .inl hw)), (a 45, .inl (cI, 16, .inl ax)), (a 46, .inl (cI, 16, .inl fu)), (a 47, .inl (cI, 16, .inl si)), (a 48, .inl (cZ, 16, .inl au)), (a 49, .inl (cI, 36, .inl px)), (a 50, .inl (cI, 36, .inl pg)), (a 51, .inl (cJ, 8, .inr (.inl py)))]
abbrev wOu (cI cJ cZ : ClassId) (a : Nat → Nat) (ou : A64) : va_W := [(a 60, .inl (cJ, 1, .inr (.inl ou)))]
abbrev wAll (cI cJ cZ : ClassId) (a : Nat → Nat) (px : A32) (py : A64) (td : Int32) (ld : A32) (sl : A32) (bd : A32) (pw : A32) (dt : A32) (st : A32) (uc : A32) (sv : A32) (tl : A32) (so : A32) (lm : A32) (n : Nat) (nd : Int32) (ss : A32) (rg : A32) (hw : A32) (ax : A32) (fu : A32) (si : A32) (au : A32) (ns : Nat) (jk : A32) (jd : A32) (js : A32) (jt : A32) (jn : Nat) (ef : Int32) (es : Int32) (el : Int32) (ev : Int32) (et : Int32) (eo : Int32) : va_W := ((wOr cI cJ cZ a px py td) ++ ((wFi cI cJ cZ a ld sl bd pw dt st uc sv tl so lm n nd) ++ ((wSa cI cJ cZ a ss rg hw ax fu si au ns) ++ ((wJo cI cJ cZ a jk jd js jt jn) ++ (wEx cI cJ cZ a ef es el ev et eo)))))
def F_abs (x : Int32) : Int32 := if 0 ≤ x then x else 0 - x
def F_max (x y : Int32) : Int32 := if x < y then y else x
def F_min (x y : Int32) : Int32 := if y < x then y else x
def F_lapseDay (st tl so : Int32) : Int32 := if st = 0 then tl + 700 else if st = 1 then tl + 700 else if st = 3 then so + 300 else -1
def F_due (st tl so dy : Int32) : Int32 := if F_lapseDay st tl so = -1 then 0 else if dy < F_lapseDay st tl so then 0 else 1
def F_lapsed (st : A32) (i : Nat) : Int32 := if st i = 4 then 1 else 0
def F_ahead (dt : A32) (i j : Nat) : Int32 := if dt j ≤ dt i then 0 else 1
def F_way (fs s : Int32) : Int32 := F_max (12 - F_min (F_abs (fs - s)) (360 - F_abs (fs - s))) 0
def F_harm (bd st sl : A32) (i : Nat) (fs w : Int32) (j : Nat) : Int32 := if i = j then 0 else if bd i = bd j then (if F_lapsed st i = 0 then (if F_lapsed st j = 0 then w * F_way fs (sl j) else 0) else 0) else 0
def F_harmTo (bd st sl pw : A32) (i j : Nat) : Int32 := F_harm bd st sl i (sl i) (pw i) j
def F_over (bd st sl pw dt lm : A32) (i j : Nat) : Int32 := if F_ahead dt j i = 0 then 0 else if F_harmTo bd st sl pw i j ≤ lm (i * 40 + j) then 0 else 1
def F_cnt (f : A32) : Nat → Int32
  | 0 => 0
  | k + 1 => if f k = 0 then F_cnt f k else F_cnt f k + 1
def F_any (f g : A32) : Nat → Int32
  | 0 => 0
  | k + 1 => if F_any f g k = 0 then (if f k ≤ g k then 0 else 1) else 1
theorem F_any_1 {f g : A32} {i : Nat} (hf : ¬ f i ≤ g i) : ∀ n, i < n → F_any f g n = 1
  | 0, h => absurd h (Nat.not_lt_zero i)
  | n + 1, h => by
    rcases Nat.lt_or_ge i n with q | q
    · have := F_any_1 hf n q
      simp [F_any, this]
    · have e : i = n := by omega
      subst e
      simp [F_any, hf]
def F_borne (bd st sl pw dt : A32) (i : Nat) : Nat → Int32
  | 0 => 0
  | k + 1 => if st k = 2 then (if F_ahead dt i k = 0 then F_borne bd st sl pw dt i k else F_borne bd st sl pw dt i k + F_harmTo bd st sl pw k i) else F_borne bd st sl pw dt i k
def F_fst (bd st sl dt : A32) (x1 x2 : Int32) : Nat → Int32
  | 0 => -1
  | k + 1 => if F_lapsed st k = 0 then (if sl k = x1 then (if bd k = x2 then (if F_fst bd st sl dt x1 x2 k = -1 then nI k else if F_ahead dt k (F_fst bd st sl dt x1 x2 k).toNatClampNeg = 0 then F_fst bd st sl dt x1 x2 k else nI k) else F_fst bd st sl dt x1 x2 k) else F_fst bd st sl dt x1 x2 k) else F_fst bd st sl dt x1 x2 k
theorem F_fst_ix (bd st sl dt : A32) (x1 x2 : Int32) : ∀ k, k ≤ 40 → F_fst bd st sl dt x1 x2 k = -1 ∨ (F_fst bd st sl dt x1 x2 k = nI (F_fst bd st sl dt x1 x2 k).toNatClampNeg ∧ (F_fst bd st sl dt x1 x2 k).toNatClampNeg < k)
  | 0, _ => Or.inl rfl
  | k + 1, h => by
    have ih := F_fst_ix bd st sl dt x1 x2 k (by omega)
    have hk : (nI k).toNatClampNeg = k := nI_clamp (by omega)
    have keep : F_fst bd st sl dt x1 x2 k = -1 ∨ (F_fst bd st sl dt x1 x2 k = nI (F_fst bd st sl dt x1 x2 k).toNatClampNeg ∧ (F_fst bd st sl dt x1 x2 k).toNatClampNeg < k + 1) := ih.imp id (fun q => ⟨q.1, by omega⟩)
    have new : nI k = -1 ∨ (nI k = nI (nI k).toNatClampNeg ∧ (nI k).toNatClampNeg < k + 1) := Or.inr ⟨by rw [hk], by omega⟩
    rw [F_fst]
    split
    · split
      · split
        · split
          · exact new
          · split
            · exact keep
            · exact new
        · exact keep
      · exact keep
    · exact keep
def F_served (sv : A32) (x : Int32) : Nat → Int32
  | 0 => 0
  | k + 1 => if sv k = x then F_served sv x k + 1 else F_served sv x k
def F_susSv (sv : A32) (x : Int32) : Nat → A32
  | 0 => sv
  | k + 1 => if F_susSv sv x k k = x then upd (F_susSv sv x k) k (-1) else F_susSv sv x k
def F_susSt (st sv : A32) (x : Int32) : Nat → A32
  | 0 => st
  | k + 1 => if F_susSv sv x k k = x then upd (F_susSt st sv x k) k 3 else F_susSt st sv x k
def F_susSo (so sv : A32) (x dy : Int32) : Nat → A32
  | 0 => so
  | k + 1 => if F_susSv sv x k k = x then upd (F_susSo so sv x dy k) k dy else F_susSo so sv x dy k
def F_susN (sv : A32) (x : Int32) : Nat → Int32
  | 0 => 0
  | k + 1 => if F_susSv sv x k k = x then F_susN sv x k + 1 else F_susN sv x k
def F_lapSt (st tl so : A32) (dy : Int32) : Nat → A32
  | 0 => st
  | k + 1 => if F_due (F_lapSt st tl so dy k k) (tl k) (so k) dy = 0 then F_lapSt st tl so dy k else upd (F_lapSt st tl so dy k) k 4
def F_lapSv (st sv tl so : A32) (dy : Int32) : Nat → A32
  | 0 => sv
  | k + 1 => if F_due (F_lapSt st tl so dy k k) (tl k) (so k) dy = 0 then F_lapSv st sv tl so dy k else upd (F_lapSv st sv tl so dy k) k (-1)
def F_lim (lm : A32) (n : Nat) : Nat → A32
  | 0 => lm
  | k + 1 => upd (upd (F_lim lm n k) (n * 40 + k) 20) (k * 40 + n) 20
def F_among (x y : Int32) : Int32 := if (x >>> (y &&& 31)) &&& 1 = 1 then 1 else 0
theorem F_among_01 (x y : Int32) : F_among x y = 0 ∨ F_among x y = 1 := by unfold F_among; split; exact Or.inr rfl; exact Or.inl rfl
theorem z_nb {x : Int32} (h : x = 0 ∨ x = 1) : narrow .boolean (.int x) = .int x := by rcases h with rfl | rfl <;> decide
def F_low (x : Int32) : Nat → Int32
  | 0 => -1
  | k + 1 => if F_low x k = -1 then (if F_among x (nI k) = 0 then -1 else nI k) else F_low x k
theorem F_low_hit {x : Int32} {i : Nat} (h0 : F_low x i = -1) (h1 : ¬ F_among x (nI i) = 0) (hi : i < 8) : ∀ n, i < n → n ≤ 8 → F_low x n = nI i
  | 0, h, _ => absurd h (Nat.not_lt_zero i)
  | n + 1, h, h8 => by
    rcases Nat.lt_or_ge i n with q | q
    · have := F_low_hit h0 h1 hi n q (by omega)
      have hne : ¬ nI i = -1 := by
        intro e
        have e2 := congrArg Int32.toInt e
        rw [nI_toInt (by omega)] at e2
        have : (-1 : Int32).toInt = -1 := by decide
        omega
      rw [F_low, this, if_neg hne]
    · have e : i = n := by omega
      subst e
      rw [F_low, h0, if_pos rfl, if_neg h1]
def F_canDodge (hw fu : A32) (i : Nat) : Int32 := if hw i = 0 then (if fu i < 1 then 0 else 1) else 0
def ZN (U : State) : Prop := va_Nw (.methodLinkNest RX0 53 yX4_isLapseDue RX4) U ∧ va_Nw (.methodLinkNest RX1 99 yX4_isLapseDue RX4) U
theorem ZN_b : ZB ZN := fun a U g mk h => ⟨va_Nw.same rfl (u := U) rfl h.1, va_Nw.same rfl (u := U) rfl h.2⟩
theorem ZN_m {s : State} {H : Heap} (h : ZN s) : ∀ U : State, U.heap = H → s.WarmedH U.vm → ZN U := fun U _ hW => ⟨va_Nw.warmM hW h.1, va_Nw.warmM hW h.2⟩
abbrev T5 : Type := Int32 × Int32 × Int32 × Int32 × Int32
def F_reach (d : Int32) (t : T5) : T5 := if F_due t.1 t.2.2.2.1 t.2.2.2.2 d = 0 then t else (4, t.2.1, -1, t.2.2.2.1, t.2.2.2.2)
def F_intr (d : Int32) (t : T5) : T5 := (3, t.2.1, -1, t.2.2.2.1, d)
def F_hsat (d sat oth : Int32) (t : T5) : T5 := if t.2.2.1 = -1 then t else if t.2.2.1 = sat then F_intr d t else if t.2.2.1 = oth then F_intr d t else t
def F_hfil (k : Nat) (d det : Int32) (t : T5) : T5 := if k = 0 then (0, det, t.2.2.1, d, t.2.2.2.2) else if k = 1 then (1, t.2.1, t.2.2.1, t.2.2.2.1, t.2.2.2.2) else if k = 2 then (if t.1 = 2 then (if t.2.1 = det then (t.1, det, t.2.2.1, t.2.2.2.1, t.2.2.2.2) else (3, det, -1, t.2.2.2.1, d)) else (t.1, det, t.2.2.1, t.2.2.2.1, t.2.2.2.2)) else if k = 3 then (4, t.2.1, -1, t.2.2.2.1, t.2.2.2.2) else if k = 4 then (2, t.2.1, det, t.2.2.2.1, t.2.2.2.2) else F_intr d t
def F_hear (f : Int32) (k : Nat) (d sub det : Int32) (t : T5) : T5 := if k = 6 then F_hsat d sub det t else if k = 7 then F_hsat d sub det t else if sub = f then F_hfil k d det t else t
def F_exam (f : Int32) (kk : Nat → Nat) (jd js jt : A32) (t0 : T5) : Nat → T5
  | 0 => t0
  | k + 1 => F_hear f (kk k) (jd k) (js k) (jt k) (F_reach (jd k) (F_exam f kk jd js jt t0 k))
