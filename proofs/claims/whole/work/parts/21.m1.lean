/-! the reference's own functions, written as its text has them -/
def F_sel {α : Type} (e : Nat) (x y : α) : α := if e = 0 then x else y
theorem F_sel_0 {α : Type} (x y : α) : F_sel 0 x y = x := rfl
theorem F_sel_1 {α : Type} (x y : α) : F_sel 1 x y = y := rfl
theorem F_sel_2 {α : Type} (x y : α) : F_sel 2 x y = y := rfl
theorem F_sel_3 {α : Type} (x y : α) : F_sel 3 x y = y := rfl
theorem F_in_01 (x lo hi : Int32) : F_in x lo hi = 0 ∨ F_in x lo hi = 1 := by unfold F_in; split; exact Or.inl rfl; split; exact Or.inl rfl; exact Or.inr rfl
theorem z_b01 (x : Int32) : x &&& 1 = 0 ∨ x &&& 1 = 1 := by
  have h : (x &&& 1).toBitVec.toNat = x.toBitVec.toNat % 2 := by rw [Int32.toBitVec_and, BitVec.toNat_and]; exact Nat.and_one_is_mod _
  rcases Nat.mod_two_eq_zero_or_one x.toBitVec.toNat with q | q
  · left; apply Int32.toBitVec_inj.mp; apply BitVec.eq_of_toNat_eq; rw [h, q]; rfl
  · right; apply Int32.toBitVec_inj.mp; apply BitVec.eq_of_toNat_eq; rw [h, q]; rfl
theorem F_among_0 {x y : Int32} (h : (x >>> (y &&& 31)) &&& 1 = 0) : F_among x y = 0 := by unfold F_among; rw [h]; rfl
theorem F_among_1 {x y : Int32} (h : ¬ (x >>> (y &&& 31)) &&& 1 = 0) : ¬ F_among x y = 0 := by
  unfold F_among; rw [(z_b01 _).resolve_left h]; decide
theorem F_low_all : ∀ k, k < 256 → 1 ≤ k → ¬ F_low (nI k) 8 = -1 := by decide +kernel
theorem F_low_lt {x : Int32} {i : Nat} (hi : i ≤ 8) (hx : ¬ F_in x 1 255 = 0) (h : F_low x i = -1) : i < 8 := by
  obtain ⟨h1, h2, h3⟩ := F_in_natL 256 hx (by decide) (by decide)
  rcases Nat.lt_or_ge i 8 with q | q
  · exact q
  · obtain rfl : i = 8 := by omega
    rw [h1] at h
    refine absurd h (F_low_all (ix x) h2 ?_)
    have : (1 : Int32).toInt = 1 := by decide
    omega
theorem z_le0 {x : Int32} : x ≤ 0 ↔ x < 1 := by
  rw [z_lt, z_le]
  have : (1 : Int32).toInt = 1 := by decide
  have : (0 : Int32).toInt = 0 := by decide
  omega
theorem z_iremN {x : Int32} {a : Nat} (b : Nat) (hx : x = nI a) (ha : a < 1000) (hb : nI b = nI b) (h0 : 0 < b) (h1 : b < 1000) : x - x / nI b * nI b = nI (a % b) := by
  subst hx
  have e : nI a / nI b = nI (a / b) := pk_div (by omega) h0 (by omega)
  have h2 : a / b ≤ a := Nat.div_le_self a b
  rw [e, z_imul rfl rfl]
  have e2 : nI a = nI (a % b) + nI (a / b * b) := by
    rw [z_iadd rfl rfl]
    have := Nat.mod_add_div a b
    rw [Nat.mul_comm] at this
    rw [this]
  rw [e2]
  exact Int32.add_sub_cancel _ _
def G_off (a b : Int32) : Int32 := if b ≤ a then a - b else b - a
def G_apart (a b : Int32) : Int32 := if G_off a b ≤ 180 then G_off a b else 360 - G_off a b
def G_harm (bd st sl : A32) (i : Nat) (fs w : Int32) (j : Nat) : Int32 := if i = j then 0 else if bd i = bd j then (if st i = 4 then 0 else if st j = 4 then 0 else if 12 - G_apart fs (sl j) ≤ 0 then 0 else w * (12 - G_apart fs (sl j))) else 0
def G_harmOf (bd st sl pw : A32) (i j : Nat) : Int32 := G_harm bd st sl i (sl i) (pw i) j
def G_free (ag : A32) (i j : Nat) : Int32 := if ag (40 * i + j) = -1 then 20 else ag (40 * i + j)
def G_ahead (dt st : A32) (i j : Nat) : Int32 := if dt j ≤ dt i then 0 else if st i = 4 then 0 else if st j = 4 then 0 else 1
theorem G_ahead_01 (dt st : A32) (i j : Nat) : G_ahead dt st i j = 0 ∨ G_ahead dt st i j = 1 := by
  unfold G_ahead
  repeat' split
  all_goals simp
def G_needs (bd st sl pw dt ag : A32) (i : Nat) : Nat → Int32
  | 0 => 0
  | k + 1 => if G_ahead dt st k i = 0 then G_needs bd st sl pw dt ag i k + 0 else if G_harmOf bd st sl pw i k ≤ G_free ag i k then G_needs bd st sl pw dt ag i k + 0 else G_needs bd st sl pw dt ag i k + 1
def G_bears (bd st sl pw dt : A32) (i : Nat) : Nat → Int32
  | 0 => 0
  | k + 1 => if G_ahead dt st i k = 0 then G_bears bd st sl pw dt i k + 0 else if st k = 2 then G_bears bd st sl pw dt i k + G_harmOf bd st sl pw k i else G_bears bd st sl pw dt i k + 0
def G_lapAg (ag : A32) (i : Nat) : Nat → A32
  | 0 => ag
  | k + 1 => upd (upd (G_lapAg ag i k) (40 * i + k) (-1)) (40 * k + i) (-1)
def G_keep (f g : A32) : Nat → Int32
  | 0 => 1
  | k + 1 => if G_keep f g k = 0 then 0 else if g k < f k then 0 else 1
theorem G_keep_01 (f g : A32) : ∀ n, G_keep f g n = 0 ∨ G_keep f g n = 1
  | 0 => Or.inr rfl
  | n + 1 => by
    rw [G_keep]
    repeat' split
    all_goals simp
def G_ends (bd st sl pw dt ag uc : A32) (i j : Nat) : Int32 := if uc j = 0 then 0 else if G_ahead dt st i j = 0 then 0 else if G_harmOf bd st sl pw j i ≤ G_free ag j i then 0 else 1
def G_served (sv : A32) (x : Int32) : Nat → Int32
  | 0 => 0
  | k + 1 => if sv k = x then G_served sv x k + 1 else G_served sv x k + 0
def G_all (c w : Int32) : Int32 := if 0 ≤ c then w else -1
def G_can (hw fu : A32) (i : Nat) : Int32 := if hw i = 0 then (if fu i ≤ 0 then 0 else 1) else 0
theorem G_can_01 (hw fu : A32) (i : Nat) : G_can hw fu i = 0 ∨ G_can hw fu i = 1 := by
  unfold G_can
  repeat' split
  all_goals simp
def G_gt (x1 x2 : Int32) : Int32 := if x1 ≤ x2 then 2 else 1
def G_hit (hw fu au : A32) (i j : Nat) (x1 x2 : Int32) : Int32 := if G_can hw fu i = 0 then (if G_can hw fu j = 0 then 1 else 0) else if G_can hw fu j = 0 then 0 else if au i = 0 then 0 else if au j = 0 then 0 else if x1 - x1 / 2 * 2 = x2 - x2 / 2 * 2 then 1 else 0
def G_nearR (hw fu au : A32) (i j : Nat) (x1 x2 c : Int32) : Int32 := if G_can hw fu i = 0 then (if G_can hw fu j = 0 then G_all c 0 else 2) else if G_can hw fu j = 0 then 1 else if au i = 0 then G_gt x1 x2 else if au j = 0 then G_gt x1 x2 else if x1 - x1 / 2 * 2 = x2 - x2 / 2 * 2 then G_all c 4 else 3
def G_gtFu (fu : A32) (i j : Nat) (x1 x2 : Int32) : A32 := if x1 ≤ x2 then upd fu j (fu j - 1) else upd fu i (fu i - 1)
def G_nearFu (hw fu au : A32) (i j : Nat) (x1 x2 : Int32) : A32 := if G_can hw fu i = 0 then (if G_can hw fu j = 0 then fu else upd fu j (fu j - 1)) else if G_can hw fu j = 0 then upd fu i (fu i - 1) else if au i = 0 then G_gtFu fu i j x1 x2 else if au j = 0 then G_gtFu fu i j x1 x2 else upd (upd fu i (fu i - 1)) j (upd fu i (fu i - 1) j - 1)
def G_many (s : Int32) : Nat → Int32
  | 0 => 0
  | k + 1 => G_many s k + ((s >>> (nI k &&& 31)) &&& 1)
def G_share (s x2 : Int32) : Int32 := (x2 + G_many s 8 - 1) / G_many s 8
def G_pay (s sh : Int32) (py : A64) : Nat → A64
  | 0 => py
  | k + 1 => if (s >>> (nI k &&& 31)) &&& 1 = 1 then vp_updL (G_pay s sh py k) k (G_pay s sh py k k + sh.toInt64) else vp_updL (G_pay s sh py k) k (G_pay s sh py k k + 0)
def G_cl (x3 x4 : Int32) : Int32 := if x3 = 0 then (if x4 = 0 then 0 else 1) else 1
def G_rest (so : A32) (td : Int32) (s : Int32) (k : Nat) : Int32 := if s = 3 then (if td < so k + 300 then 0 else 1) else 0
def G_old (s : Int32) (tl so : A32) (td : Int32) (k : Nat) : Int32 := if F_in s 0 1 = 0 then G_rest so td s k else if td < tl k + 700 then G_rest so td s k else 1
def G_lpSt (st tl so : A32) (td : Int32) : Nat → A32
  | 0 => st
  | k + 1 => if G_old (G_lpSt st tl so td k k) tl so td k = 0 then G_lpSt st tl so td k else upd (G_lpSt st tl so td k) k 4
def G_lpSv (st sv tl so : A32) (td : Int32) : Nat → A32
  | 0 => sv
  | k + 1 => if G_old (G_lpSt st tl so td k k) tl so td k = 0 then G_lpSv st sv tl so td k else upd (G_lpSv st sv tl so td k) k (-1)
def G_lpAg (st ag tl so : A32) (td : Int32) : Nat → A32
  | 0 => ag
  | k + 1 => if G_old (G_lpSt st tl so td k k) tl so td k = 0 then G_lpAg st ag tl so td k else G_lapAg (G_lpAg st ag tl so td k) k 40
def G_goes (px pg : A32) : Nat → A32
  | 0 => pg
  | k + 1 => upd (G_goes px pg k) k (px k / 10)
def G_comes (px pg : A32) : Nat → A32
  | 0 => px
  | k + 1 => upd (upd (G_comes px pg k) k (G_comes px pg k k - pg k)) ((k + 1) % 36) (upd (G_comes px pg k) k (G_comes px pg k k - pg k) ((k + 1) % 36) + pg k)
def G_dr (td : Int32) : Int32 := if td - td / 50 * 50 = 0 then 1 else 0
abbrev T6 : Type := Int32 × A32 × A32 × A32 × A32 × A32
def G_pas (tl so : A32) (n : Nat) (t : T6) : T6 := (t.1 + 1, G_lpSt t.2.1 tl so (t.1 + 1) n, G_lpSv t.2.1 t.2.2.1 tl so (t.1 + 1) n, G_lpAg t.2.1 t.2.2.2.1 tl so (t.1 + 1) n, F_if (G_dr (t.1 + 1)) t.2.2.2.2.1 (G_comes t.2.2.2.2.1 (G_goes t.2.2.2.2.1 t.2.2.2.2.2 36) 36), F_if (G_dr (t.1 + 1)) t.2.2.2.2.2 (G_goes t.2.2.2.2.1 t.2.2.2.2.2 36))
def G_days (tl so : A32) (n : Nat) (t : T6) : Nat → T6
  | 0 => t
  | k + 1 => G_pas tl so n (G_days tl so n t k)
def G_endOf (st tl so : Int32) : Int32 := if F_in st 0 1 = 0 then (if st = 3 then so + 300 else -1) else tl + 700
def G_fof (ld sl bd pw dt st uc sv tl so : A32) (i k : Nat) : Int32 := if k = 0 then ld i else if k = 1 then sl i else if k = 2 then bd i else if k = 3 then pw i else if k = 4 then dt i else if k = 5 then st i else if k = 6 then (if uc i = 0 then 0 else 1) else if k = 7 then sv i else G_endOf (st i) (tl i) (so i)
def G_allow (dt st ag : A32) (i j : Nat) : Int32 := if G_ahead dt st j i = 0 then -1 else G_free ag i j
def G_fst (bd st sl dt : A32) (x1 x2 : Int32) : Nat → Int32
  | 0 => -1
  | k + 1 => if sl k = x1 then (if bd k = x2 then (if st k = 4 then G_fst bd st sl dt x1 x2 k else if G_fst bd st sl dt x1 x2 k = -1 then nI k else if dt (G_fst bd st sl dt x1 x2 k).toNatClampNeg ≤ dt k then G_fst bd st sl dt x1 x2 k else nI k) else G_fst bd st sl dt x1 x2 k) else G_fst bd st sl dt x1 x2 k
theorem G_fst_ix (bd st sl dt : A32) (x1 x2 : Int32) : ∀ k, k ≤ 40 → G_fst bd st sl dt x1 x2 k = -1 ∨ (G_fst bd st sl dt x1 x2 k = nI (G_fst bd st sl dt x1 x2 k).toNatClampNeg ∧ (G_fst bd st sl dt x1 x2 k).toNatClampNeg < k)
  | 0, _ => Or.inl rfl
  | k + 1, h => by
    have ih := G_fst_ix bd st sl dt x1 x2 k (by omega)
    have hk : (nI k).toNatClampNeg = k := nI_clamp (by omega)
    have keep : G_fst bd st sl dt x1 x2 k = -1 ∨ (G_fst bd st sl dt x1 x2 k = nI (G_fst bd st sl dt x1 x2 k).toNatClampNeg ∧ (G_fst bd st sl dt x1 x2 k).toNatClampNeg < k + 1) := ih.imp id (fun q => ⟨q.1, by omega⟩)
    have new : nI k = -1 ∨ (nI k = nI (nI k).toNatClampNeg ∧ (nI k).toNatClampNeg < k + 1) := Or.inr ⟨by rw [hk], by omega⟩
    rw [G_fst]
    split
    · split
      · split
        · exact keep
        · split
          · exact new
          · split
            · exact keep
            · exact new
      · exact keep
    · exact keep

set_option maxHeartbeats 4000000 in
set_option maxRecDepth 100000 in
theorem c_X5_in (l : Launch) (D : va_G) (cI cJ cZ : ClassId) (a : Nat → Nat) (sz : Nat)  (x1 : Int32) (x2 : Int32) (x3 : Int32) : Met l yX5_in wsX5_in ({ frames := 0, cells := 0, slots := 0, locals := 0 }) (va_Pc [.int x1, .int x2, .int x3] (ZP D (zt cI cJ cZ) ([] : va_W) sz zT)) (va_Qi (fun (r : Int32) (_ : Unit) => r = F_in x1 x2 x3) (fun _ _ => True) (va_A [] sz)) 0 0 (va_A [] sz) := by
  refine Met.ofW (cc := cX5_in) (maxL := 3) (ret := (some .boolean)) (by decide) rfl ?_
  intro p e s m args below meth c s₁ B hml hv
  obtain ⟨rfl, hsz, hP, hK, hD0, hE⟩ := hv
  have hx := B.exec
  have hb := B.bytes
  have hr := B.returns
  have hts := atoms_spec (ws := wsX5_in) B.pre
  have hown : s.vm.findClass RX5 = some m.cls := findClass_of_methodNamed B.named
  have hlocks := B.notSynchronized
  subst hsz
  have hD := hD0
  generalize hAe : va_A [] s.heap.size = A at ⊢
  have hA : ∀ q : Nat, s.heap.size ≤ q → A q := fun q h => by rw [← hAe]; exact Or.inr h
  have hS : va_S A s.heap s.heap [] := va_S.rf
  have hl := lv_entry ([.int x1, .int x2, .int x3]) (n := 3) (Nat.le_of_ble_eq_true rfl)
  rw [lg_entry_eq]
  generalize (lg_sl ([.int x1, .int x2, .int x3]) ++ List.replicate (3 - (lg_sl ([.int x1, .int x2, .int x3])).length) Slot.unset).toArray = ls at hl ⊢
  have hl : lv_has ls 3 [(0, .int x1), (1, .int x2), (2, .int x3)] := hl
  have hP : va_P D vwCl ([] : va_W) s.heap := hP
  refine lv_iload_n hx hb dX5_in_0 rfl (lv_at hl 0 rfl) ?_
  refine lv_iload_n hx hb dX5_in_1 rfl (lv_at hl 1 rfl) ?_
  refine lv_icmp_lt (tgt := 14) hx hb dX5_in_2 (by decide) (fun c_1 => ?_) (fun c_1 => ?_)
  · refine lv_iconst (v := 0) hx hb dX5_in_14 (by decide) ?_
    exact W.zret (v := 0) hx hb hr (by decide) (fun t ht hW => ⟨⟨0, (), rfl, (by first | with_reducible rfl | (simp only [F_in, if_pos c_1]; done) | (simp +decide only [F_in, if_pos c_1]; done) | (simp [F_in, c_1]; done) | (simp +decide [F_in, c_1]; done)), trivial⟩, hS.F ht⟩) hS.2.2 dX5_in_15
  · refine lv_iload_n hx hb dX5_in_5 rfl (lv_at hl 0 rfl) ?_
    refine lv_iload_n hx hb dX5_in_6 rfl (lv_at hl 2 rfl) ?_
    refine lv_icmp_gt (tgt := 14) hx hb dX5_in_7 (by decide) (fun c_2 => ?_) (fun c_2 => ?_)
    · refine lv_iconst (v := 0) hx hb dX5_in_14 (by decide) ?_
      exact W.zret (v := 0) hx hb hr (by decide) (fun t ht hW => ⟨⟨0, (), rfl, (by first | with_reducible rfl | (simp only [F_in, if_neg c_1, if_pos c_2]; done) | (simp +decide only [F_in, if_neg c_1, if_pos c_2]; done) | (simp [F_in, c_1, c_2]; done) | (simp +decide [F_in, c_1, c_2]; done)), trivial⟩, hS.F ht⟩) hS.2.2 dX5_in_15
    · refine lv_iconst (v := 1) hx hb dX5_in_10 (by decide) ?_
      refine lv_goto (tgt := 15) hx hb dX5_in_11 (by decide) ?_
      exact W.zret (v := 1) hx hb hr (by decide) (fun t ht hW => ⟨⟨1, (), rfl, (by first | with_reducible rfl | (simp only [F_in, if_neg c_1, if_neg c_2]; done) | (simp +decide only [F_in, if_neg c_1, if_neg c_2]; done) | (simp [F_in, c_1, c_2]; done) | (simp +decide [F_in, c_1, c_2]; done)), trivial⟩, hS.F ht⟩) hS.2.2 dX5_in_15
set_option maxHeartbeats 4000000 in
set_option maxRecDepth 100000 in
theorem c_X5_isSlot (l : Launch) (D : va_G) (cI cJ cZ : ClassId) (a : Nat → Nat) (sz : Nat)  (x1 : Int32) : Met l yX5_isSlot wsX5_isSlot ({ frames := 1, cells := 0, slots := 0, locals := 22 }) (va_Pc [.int x1] (ZP D (zt cI cJ cZ) ([] : va_W) sz zT)) (va_Qi (fun (r : Int32) (_ : Unit) => r = F_in x1 0 359) (fun _ _ => True) (va_A [] sz)) 0 0 (va_A [] sz) := by
  refine Met.ofW (cc := cX5_isSlot) (maxL := 1) (ret := (some .boolean)) (by decide) rfl ?_
  intro p e s m args below meth c s₁ B hml hv
  obtain ⟨rfl, hsz, hP, hK, hD0, hE⟩ := hv
  have hx := B.exec
  have hb := B.bytes
  have hr := B.returns
  have hts := atoms_spec (ws := wsX5_isSlot) B.pre
  have hown : s.vm.findClass RX5 = some m.cls := findClass_of_methodNamed B.named
  have hlocks := B.notSynchronized
  subst hsz
  have hD := hD0
  generalize hAe : va_A [] s.heap.size = A at ⊢
  have hA : ∀ q : Nat, s.heap.size ≤ q → A q := fun q h => by rw [← hAe]; exact Or.inr h
  have hS : va_S A s.heap s.heap [] := va_S.rf
  have hl := lv_entry ([.int x1]) (n := 1) (Nat.le_of_ble_eq_true rfl)
  rw [lg_entry_eq]
  generalize (lg_sl ([.int x1]) ++ List.replicate (1 - (lg_sl ([.int x1])).length) Slot.unset).toArray = ls at hl ⊢
  have hl : lv_has ls 1 [(0, .int x1)] := hl
  have hP : va_P D vwCl ([] : va_W) s.heap := hP
  refine lv_iload_n hx hb dX5_isSlot_0 rfl (lv_at hl 0 rfl) ?_
  refine lv_iconst (v := 0) hx hb dX5_isSlot_1 (by decide) ?_
  refine lv_sipush (v := 359) hx hb dX5_isSlot_2 (by decide) ?_
  refine z_ri (va_runS (As := [.int x1, .int 0, .int 359]) (rest := []) ⟨hx, hb, hml, hown, hts⟩ (c_X5_in l D cI cJ cZ a s.heap.size x1 0 359) (va_cwS 3 hts gX5_isSlot_X5_in rfl rfl rfl (by decide +kernel) ⟨Nat.le_of_ble_eq_true rfl, Nat.le_of_ble_eq_true rfl⟩) (z_ps hK hP hD zT_b zT_m) rfl rfl hl.1 rfl (lv_room (Nat.le_of_ble_eq_true rfl)) dX5_isSlot_5 ⟨Nat.le_of_ble_eq_true rfl, Nat.le_of_ble_eq_true rfl⟩) hP hS hA (fun r_1 _ H locs hr_1 hP hS => ?_)
  subst hr_1
  exact W.zret (v := F_in x1 0 359) hx hb hr (z_nb (F_in_01 _ _ _)) (fun t ht hW => ⟨⟨F_in x1 0 359, (), rfl, rfl, trivial⟩, hS.F ht⟩) hS.2.2 dX5_isSlot_8
set_option maxHeartbeats 4000000 in
set_option maxRecDepth 100000 in
theorem c_X5_apart (l : Launch) (D : va_G) (cI cJ cZ : ClassId) (a : Nat → Nat) (sz : Nat)  (x1 : Int32) (x2 : Int32) : Met l yX5_apart wsX5_apart ({ frames := 0, cells := 0, slots := 0, locals := 0 }) (va_Pc [.int x1, .int x2] (ZP D (zt cI cJ cZ) ([] : va_W) sz zT)) (va_Qi (fun (r : Int32) (_ : Unit) => r = G_apart x1 x2) (fun _ _ => True) (va_A [] sz)) 0 0 (va_A [] sz) := by
  refine Met.ofW (cc := cX5_apart) (maxL := 3) (ret := (some .int)) (by decide) rfl ?_
  intro p e s m args below meth c s₁ B hml hv
  obtain ⟨rfl, hsz, hP, hK, hD0, hE⟩ := hv
  have hx := B.exec
  have hb := B.bytes
  have hr := B.returns
  have hts := atoms_spec (ws := wsX5_apart) B.pre
  have hown : s.vm.findClass RX5 = some m.cls := findClass_of_methodNamed B.named
  have hlocks := B.notSynchronized
  subst hsz
  have hD := hD0
  generalize hAe : va_A [] s.heap.size = A at ⊢
  have hA : ∀ q : Nat, s.heap.size ≤ q → A q := fun q h => by rw [← hAe]; exact Or.inr h
  have hS : va_S A s.heap s.heap [] := va_S.rf
  have hl := lv_entry ([.int x1, .int x2]) (n := 3) (Nat.le_of_ble_eq_true rfl)
  rw [lg_entry_eq]
  generalize (lg_sl ([.int x1, .int x2]) ++ List.replicate (3 - (lg_sl ([.int x1, .int x2])).length) Slot.unset).toArray = ls at hl ⊢
  have hl : lv_has ls 3 [(0, .int x1), (1, .int x2)] := hl
  have hP : va_P D vwCl ([] : va_W) s.heap := hP
  refine lv_iload_n hx hb dX5_apart_0 rfl (lv_at hl 0 rfl) ?_
  refine lv_iload_n hx hb dX5_apart_1 rfl (lv_at hl 1 rfl) ?_
  refine lv_icmp_ge (tgt := 11) hx hb dX5_apart_2 (by decide) (fun c_1 => ?_) (fun c_1 => ?_)
  · refine lv_iload_n hx hb dX5_apart_11 rfl (lv_at hl 0 rfl) ?_
    refine lv_iload_n hx hb dX5_apart_12 rfl (lv_at hl 1 rfl) ?_
    refine lv_isub hx hb dX5_apart_13 ?_
    refine lv_istore_n (lv' := [(2, .int (x1 - x2)), (0, .int x1), (1, .int x2)]) hx hb dX5_apart_14 rfl hl (by decide) rfl (fun ls hl => ?_)
    refine lv_iload_n hx hb dX5_apart_15 rfl (lv_at hl 0 rfl) ?_
    refine lv_sipush (v := 180) hx hb dX5_apart_16 (by decide) ?_
    refine lv_icmp_le (tgt := 30) hx hb dX5_apart_19 (by decide) (fun c_2 => ?_) (fun c_2 => ?_)
    · refine lv_iload_n hx hb dX5_apart_30 rfl (lv_at hl 0 rfl) ?_
      exact W.iret (v := x1 - x2) hx hb hr (fun t ht hW => ⟨⟨x1 - x2, (), rfl, (by first | with_reducible rfl | (simp only [G_apart, G_off, if_pos c_1, if_pos c_2]; done) | (simp +decide only [G_apart, G_off, if_pos c_1, if_pos c_2]; done) | (simp [G_apart, G_off, c_1, c_2]; done) | (simp +decide [G_apart, G_off, c_1, c_2]; done)), trivial⟩, hS.F ht⟩) hS.2.2 dX5_apart_31
    · refine lv_sipush (v := 360) hx hb dX5_apart_22 (by decide) ?_
      refine lv_iload_n hx hb dX5_apart_25 rfl (lv_at hl 0 rfl) ?_
      refine lv_isub hx hb dX5_apart_26 ?_
      refine lv_goto (tgt := 31) hx hb dX5_apart_27 (by decide) ?_
      exact W.iret (v := 360 - (x1 - x2)) hx hb hr (fun t ht hW => ⟨⟨360 - (x1 - x2), (), rfl, (by first | with_reducible rfl | (simp only [G_apart, G_off, if_pos c_1, if_neg c_2]; done) | (simp +decide only [G_apart, G_off, if_pos c_1, if_neg c_2]; done) | (simp [G_apart, G_off, c_1, c_2]; done) | (simp +decide [G_apart, G_off, c_1, c_2]; done)), trivial⟩, hS.F ht⟩) hS.2.2 dX5_apart_31
  · refine lv_iload_n hx hb dX5_apart_5 rfl (lv_at hl 1 rfl) ?_
    refine lv_iload_n hx hb dX5_apart_6 rfl (lv_at hl 0 rfl) ?_
    refine lv_isub hx hb dX5_apart_7 ?_
    refine lv_goto (tgt := 14) hx hb dX5_apart_8 (by decide) ?_
    refine lv_istore_n (lv' := [(2, .int (x2 - x1)), (0, .int x1), (1, .int x2)]) hx hb dX5_apart_14 rfl hl (by decide) rfl (fun ls hl => ?_)
    refine lv_iload_n hx hb dX5_apart_15 rfl (lv_at hl 0 rfl) ?_
    refine lv_sipush (v := 180) hx hb dX5_apart_16 (by decide) ?_
    refine lv_icmp_le (tgt := 30) hx hb dX5_apart_19 (by decide) (fun c_3 => ?_) (fun c_3 => ?_)
    · refine lv_iload_n hx hb dX5_apart_30 rfl (lv_at hl 0 rfl) ?_
      exact W.iret (v := x2 - x1) hx hb hr (fun t ht hW => ⟨⟨x2 - x1, (), rfl, (by first | with_reducible rfl | (simp only [G_apart, G_off, if_neg c_1, if_pos c_3]; done) | (simp +decide only [G_apart, G_off, if_neg c_1, if_pos c_3]; done) | (simp [G_apart, G_off, c_1, c_3]; done) | (simp +decide [G_apart, G_off, c_1, c_3]; done)), trivial⟩, hS.F ht⟩) hS.2.2 dX5_apart_31
    · refine lv_sipush (v := 360) hx hb dX5_apart_22 (by decide) ?_
      refine lv_iload_n hx hb dX5_apart_25 rfl (lv_at hl 0 rfl) ?_
      refine lv_isub hx hb dX5_apart_26 ?_
      refine lv_goto (tgt := 31) hx hb dX5_apart_27 (by decide) ?_
      exact W.iret (v := 360 - (x2 - x1)) hx hb hr (fun t ht hW => ⟨⟨360 - (x2 - x1), (), rfl, (by first | with_reducible rfl | (simp only [G_apart, G_off, if_neg c_1, if_neg c_3]; done) | (simp +decide only [G_apart, G_off, if_neg c_1, if_neg c_3]; done) | (simp [G_apart, G_off, c_1, c_3]; done) | (simp +decide [G_apart, G_off, c_1, c_3]; done)), trivial⟩, hS.F ht⟩) hS.2.2 dX5_apart_31
theorem k_X5_thrown_1 : (Cond.fieldLink RX5 75 "OrbitregisterModel" "thrown" "I") ∈ wsX5_thrown := List.mem_of_getElem? (i := 1) rfl
theorem b_X5_thrown_wsX50 : ∀ w ∈ wsX50, w ∈ wsX5_thrown := fun _ h => List.mem_cons_of_mem _ (List.mem_append_right _ h)
set_option maxHeartbeats 4000000 in
set_option maxRecDepth 100000 in
theorem c_X5_thrown (l : Launch) (D : va_G) (cI cJ cZ : ClassId) (a : Nat → Nat) (sz : Nat) (th : Int32) (td : Int32) (nd : Int32) (n : Nat) (ld : A32) (sl : A32) (bd : A32) (pw : A32) (dt : A32) (st : A32) (uc : A32) (sv : A32) (tl : A32) (so : A32) (ag : A32) (ns : Nat) (ss : A32) (rg : A32) (hw : A32) (ax : A32) (fu : A32) (si : A32) (au : A32) (px : A32) (pg : A32) (py : A64) : Met l yX5_thrown wsX5_thrown ({ frames := 0, cells := 0, slots := 0, locals := 0 }) (va_Pc [.ref (a 30)] (ZP D (zt cI cJ cZ) (wMo cI cJ cZ a th td nd n ld sl bd pw dt st uc sv tl so ag ns ss rg hw ax fu si au px pg py) sz zT)) (va_Qi (fun (r : Int32) (_ : Unit) => r = th) (fun _ _ => True) (va_A [] sz)) 0 0 (va_A [] sz) := by
  refine Met.ofW (cc := cX5_thrown) (maxL := 1) (ret := (some .int)) (by decide) rfl ?_
  intro p e s m args below meth c s₁ B hml hv
  obtain ⟨rfl, hsz, hP, hK, hD0, hE⟩ := hv
  have hx := B.exec
  have hb := B.bytes
  have hr := B.returns
  have hts := atoms_spec (ws := wsX5_thrown) B.pre
  have hown : s.vm.findClass RX5 = some m.cls := findClass_of_methodNamed B.named
  have hlocks := B.notSynchronized
  subst hsz
  have hD := hD0
  generalize hAe : va_A [] s.heap.size = A at ⊢
  have hA : ∀ q : Nat, s.heap.size ≤ q → A q := fun q h => by rw [← hAe]; exact Or.inr h
  have hS : va_S A s.heap s.heap [] := va_S.rf
  have hl := lv_entry ([.ref (a 30)]) (n := 1) (Nat.le_of_ble_eq_true rfl)
  rw [lg_entry_eq]
  generalize (lg_sl ([.ref (a 30)]) ++ List.replicate (1 - (lg_sl ([.ref (a 30)])).length) Slot.unset).toArray = ls at hl ⊢
  have hl : lv_has ls 1 [(0, .ref (a 30))] := hl
  have hP : va_P D vwCl (wMo cI cJ cZ a th td nd n ld sl bd pw dt st uc sv tl so ag ns ss rg hw ax fu si au px pg py) s.heap := hP
  refine lv_aload_n hx hb dX5_thrown_0 rfl (lv_at hl 0 rfl) ?_
  refine z_get (ci := 5) (C := RX5) (T := TX5) (N := 26) hx hb hts b_X5_thrown_wsX50 hown hK hP 0 rfl rfl 0 (by decide) (hts _ k_X5_thrown_1) rfl (.int th) rfl dX5_thrown_1 ?_
  exact W.iret (v := th) hx hb hr (fun t ht hW => ⟨⟨th, (), rfl, rfl, trivial⟩, hS.F ht⟩) hS.2.2 dX5_thrown_4
theorem k_X5_refused_1 : (Cond.fieldLink RX5 75 "OrbitregisterModel" "thrown" "I") ∈ wsX5_refused := List.mem_of_getElem? (i := 1) rfl
theorem b_X5_refused_wsX50 : ∀ w ∈ wsX50, w ∈ wsX5_refused := fun _ h => List.mem_cons_of_mem _ (List.mem_append_right _ h)
set_option maxHeartbeats 4000000 in
set_option maxRecDepth 100000 in
theorem c_X5_refused (l : Launch) (D : va_G) (cI cJ cZ : ClassId) (a : Nat → Nat) (sz : Nat) (th : Int32) (td : Int32) (nd : Int32) (n : Nat) (ld : A32) (sl : A32) (bd : A32) (pw : A32) (dt : A32) (st : A32) (uc : A32) (sv : A32) (tl : A32) (so : A32) (ag : A32) (ns : Nat) (ss : A32) (rg : A32) (hw : A32) (ax : A32) (fu : A32) (si : A32) (au : A32) (px : A32) (pg : A32) (py : A64) (x1 : Int32) : Met l yX5_refused wsX5_refused ({ frames := 0, cells := 0, slots := 0, locals := 0 }) (va_Pc [.ref (a 30), .int x1] (ZP D (zt cI cJ cZ) (wMo cI cJ cZ a th td nd n ld sl bd pw dt st uc sv tl so ag ns ss rg hw ax fu si au px pg py) sz zT)) (va_Qi (fun (r : Int32) (_ : Unit) => r = F_nz x1) (fun _ t => va_P D vwCl (wMo cI cJ cZ a x1 td nd n ld sl bd pw dt st uc sv tl so ag ns ss rg hw ax fu si au px pg py) t.heap) (va_A (wMo cI cJ cZ a th td nd n ld sl bd pw dt st uc sv tl so ag ns ss rg hw ax fu si au px pg py) sz)) 0 0 (va_A (wMo cI cJ cZ a th td nd n ld sl bd pw dt st uc sv tl so ag ns ss rg hw ax fu si au px pg py) sz) := by
  refine Met.ofW (cc := cX5_refused) (maxL := 2) (ret := (some .boolean)) (by decide) rfl ?_
  intro p e s m args below meth c s₁ B hml hv
  obtain ⟨rfl, hsz, hP, hK, hD0, hE⟩ := hv
  have hx := B.exec
  have hb := B.bytes
  have hr := B.returns
  have hts := atoms_spec (ws := wsX5_refused) B.pre
  have hown : s.vm.findClass RX5 = some m.cls := findClass_of_methodNamed B.named
  have hlocks := B.notSynchronized
  subst hsz
  have hD := hD0.self (sz := s.heap.size)
  generalize hAe : va_A (wMo cI cJ cZ a th td nd n ld sl bd pw dt st uc sv tl so ag ns ss rg hw ax fu si au px pg py) s.heap.size = A at hD ⊢
  have hA : ∀ q : Nat, s.heap.size ≤ q → A q := fun q h => by rw [← hAe]; exact Or.inr h
  have hS : va_S A s.heap s.heap [] := va_S.rf
  have hl := lv_entry ([.ref (a 30), .int x1]) (n := 2) (Nat.le_of_ble_eq_true rfl)
  rw [lg_entry_eq]
  generalize (lg_sl ([.ref (a 30), .int x1]) ++ List.replicate (2 - (lg_sl ([.ref (a 30), .int x1])).length) Slot.unset).toArray = ls at hl ⊢
  have hl : lv_has ls 2 [(0, .ref (a 30)), (1, .int x1)] := hl
  have hP : va_P D vwCl (wMo cI cJ cZ a th td nd n ld sl bd pw dt st uc sv tl so ag ns ss rg hw ax fu si au px pg py) s.heap := hP
  refine lv_aload_n hx hb dX5_refused_0 rfl (lv_at hl 0 rfl) ?_
  refine lv_iload_n hx hb dX5_refused_1 rfl (lv_at hl 1 rfl) ?_
  refine z_put (ci := 5) (C := RX5) (T := TX5) (N := 26) hx hb hts b_X5_refused_wsX50 tyX5 tyX5_ok nmX5 hown hK hP hD hS 0 rfl rfl 0 (by decide) (hts _ k_X5_refused_1) rfl rfl (by decide +kernel) (Nat.le_of_ble_eq_true rfl) dX5_refused_2 (wMo cI cJ cZ a x1 td nd n ld sl bd pw dt st uc sv tl so ag ns ss rg hw ax fu si au px pg py) rfl (fun H locs hP hD hS => ?_)
  refine lv_iload_n hx hb dX5_refused_5 rfl (lv_at hl 1 rfl) ?_
  refine lv_if_eq (tgt := 13) hx hb dX5_refused_6 (by decide) (fun c_1 => ?_) (fun c_1 => ?_)
  · refine lv_iconst (v := 0) hx hb dX5_refused_13 (by decide) ?_
    exact W.zret (v := 0) hx hb hr (by decide) (fun t ht hW => ⟨⟨0, (), rfl, (by first | with_reducible rfl | (simp only [F_nz, if_pos c_1]; done) | (simp +decide only [F_nz, if_pos c_1]; done) | (simp [F_nz, c_1]; done) | (simp +decide [F_nz, c_1]; done)), (z_at ht hP)⟩, hS.F ht⟩) hS.2.2 dX5_refused_14
  · refine lv_iconst (v := 1) hx hb dX5_refused_9 (by decide) ?_
    refine lv_goto (tgt := 14) hx hb dX5_refused_10 (by decide) ?_
    exact W.zret (v := 1) hx hb hr (by decide) (fun t ht hW => ⟨⟨1, (), rfl, (by first | with_reducible rfl | (simp only [F_nz, if_neg c_1]; done) | (simp +decide only [F_nz, if_neg c_1]; done) | (simp [F_nz, c_1]; done) | (simp +decide [F_nz, c_1]; done)), (z_at ht hP)⟩, hS.F ht⟩) hS.2.2 dX5_refused_14
theorem k_X5_isFiling_1 : (Cond.fieldLink RX5 79 "OrbitregisterModel" "filings" "I") ∈ wsX5_isFiling := List.mem_of_getElem? (i := 1) rfl
theorem b_X5_isFiling_wsX50 : ∀ w ∈ wsX50, w ∈ wsX5_isFiling := fun _ h => List.mem_cons_of_mem _ (List.mem_append_right _ h)
set_option maxHeartbeats 4000000 in
set_option maxRecDepth 100000 in
theorem c_X5_isFiling (l : Launch) (D : va_G) (cI cJ cZ : ClassId) (a : Nat → Nat) (sz : Nat) (th : Int32) (td : Int32) (nd : Int32) (n : Nat) (ld : A32) (sl : A32) (bd : A32) (pw : A32) (dt : A32) (st : A32) (uc : A32) (sv : A32) (tl : A32) (so : A32) (ag : A32) (ns : Nat) (ss : A32) (rg : A32) (hw : A32) (ax : A32) (fu : A32) (si : A32) (au : A32) (px : A32) (pg : A32) (py : A64) (x1 : Int32) : Met l yX5_isFiling wsX5_isFiling ({ frames := 1, cells := 0, slots := 0, locals := 22 }) (va_Pc [.ref (a 30), .int x1] (ZP D (zt cI cJ cZ) (wMo cI cJ cZ a th td nd n ld sl bd pw dt st uc sv tl so ag ns ss rg hw ax fu si au px pg py) sz zT)) (va_Qi (fun (r : Int32) (_ : Unit) => r = F_in x1 0 (nI n - 1)) (fun _ _ => True) (va_A [] sz)) 0 0 (va_A [] sz) := by
  refine Met.ofW (cc := cX5_isFiling) (maxL := 2) (ret := (some .boolean)) (by decide) rfl ?_
  intro p e s m args below meth c s₁ B hml hv
  obtain ⟨rfl, hsz, hP, hK, hD0, hE⟩ := hv
  have hx := B.exec
  have hb := B.bytes
  have hr := B.returns
  have hts := atoms_spec (ws := wsX5_isFiling) B.pre
  have hown : s.vm.findClass RX5 = some m.cls := findClass_of_methodNamed B.named
  have hlocks := B.notSynchronized
  subst hsz
  have hD := hD0
  generalize hAe : va_A [] s.heap.size = A at ⊢
  have hA : ∀ q : Nat, s.heap.size ≤ q → A q := fun q h => by rw [← hAe]; exact Or.inr h
  have hS : va_S A s.heap s.heap [] := va_S.rf
  have hl := lv_entry ([.ref (a 30), .int x1]) (n := 2) (Nat.le_of_ble_eq_true rfl)
  rw [lg_entry_eq]
  generalize (lg_sl ([.ref (a 30), .int x1]) ++ List.replicate (2 - (lg_sl ([.ref (a 30), .int x1])).length) Slot.unset).toArray = ls at hl ⊢
  have hl : lv_has ls 2 [(0, .ref (a 30)), (1, .int x1)] := hl
  have hP : va_P D vwCl (wMo cI cJ cZ a th td nd n ld sl bd pw dt st uc sv tl so ag ns ss rg hw ax fu si au px pg py) s.heap := hP
  refine lv_iload_n hx hb dX5_isFiling_0 rfl (lv_at hl 1 rfl) ?_
  refine lv_iconst (v := 0) hx hb dX5_isFiling_1 (by decide) ?_
  refine lv_aload_n hx hb dX5_isFiling_2 rfl (lv_at hl 0 rfl) ?_
  refine z_get (ci := 5) (C := RX5) (T := TX5) (N := 26) hx hb hts b_X5_isFiling_wsX50 hown hK hP 0 rfl rfl 3 (by decide) (hts _ k_X5_isFiling_1) rfl (.int (nI n)) rfl dX5_isFiling_3 ?_
  refine lv_iconst (v := 1) hx hb dX5_isFiling_6 (by decide) ?_
  refine lv_isub hx hb dX5_isFiling_7 ?_
  refine z_ri (va_runS (As := [.int x1, .int 0, .int ((nI n) - 1)]) (rest := []) ⟨hx, hb, hml, hown, hts⟩ (c_X5_in l D cI cJ cZ a s.heap.size x1 0 ((nI n) - 1)) (va_cwS 3 hts gX5_isFiling_X5_in rfl rfl rfl (by decide +kernel) ⟨Nat.le_of_ble_eq_true rfl, Nat.le_of_ble_eq_true rfl⟩) (z_ps hK zP_0 zD_0 zT_b zT_m) rfl rfl hl.1 rfl (lv_room (Nat.le_of_ble_eq_true rfl)) dX5_isFiling_8 ⟨Nat.le_of_ble_eq_true rfl, Nat.le_of_ble_eq_true rfl⟩) hP hS hA (fun r_1 _ H locs hr_1 hP hS => ?_)
  subst hr_1
  exact W.zret (v := F_in x1 0 ((nI n) - 1)) hx hb hr (z_nb (F_in_01 _ _ _)) (fun t ht hW => ⟨⟨F_in x1 0 ((nI n) - 1), (), rfl, (by first | with_reducible rfl | (simp only []; done) | (simp +decide only []; done) | (simp []; done) | (simp +decide []; done)), trivial⟩, hS.F ht⟩) hS.2.2 dX5_isFiling_11
theorem k_X5_isSatellite_1 : (Cond.fieldLink RX5 86 "OrbitregisterModel" "satellites" "I") ∈ wsX5_isSatellite := List.mem_of_getElem? (i := 1) rfl
theorem b_X5_isSatellite_wsX50 : ∀ w ∈ wsX50, w ∈ wsX5_isSatellite := fun _ h => List.mem_cons_of_mem _ (List.mem_append_right _ h)
set_option maxHeartbeats 4000000 in
set_option maxRecDepth 100000 in
theorem c_X5_isSatellite (l : Launch) (D : va_G) (cI cJ cZ : ClassId) (a : Nat → Nat) (sz : Nat) (th : Int32) (td : Int32) (nd : Int32) (n : Nat) (ld : A32) (sl : A32) (bd : A32) (pw : A32) (dt : A32) (st : A32) (uc : A32) (sv : A32) (tl : A32) (so : A32) (ag : A32) (ns : Nat) (ss : A32) (rg : A32) (hw : A32) (ax : A32) (fu : A32) (si : A32) (au : A32) (px : A32) (pg : A32) (py : A64) (x1 : Int32) : Met l yX5_isSatellite wsX5_isSatellite ({ frames := 1, cells := 0, slots := 0, locals := 22 }) (va_Pc [.ref (a 30), .int x1] (ZP D (zt cI cJ cZ) (wMo cI cJ cZ a th td nd n ld sl bd pw dt st uc sv tl so ag ns ss rg hw ax fu si au px pg py) sz zT)) (va_Qi (fun (r : Int32) (_ : Unit) => r = F_in x1 0 (nI ns - 1)) (fun _ _ => True) (va_A [] sz)) 0 0 (va_A [] sz) := by
  refine Met.ofW (cc := cX5_isSatellite) (maxL := 2) (ret := (some .boolean)) (by decide) rfl ?_
  intro p e s m args below meth c s₁ B hml hv
  obtain ⟨rfl, hsz, hP, hK, hD0, hE⟩ := hv
  have hx := B.exec
  have hb := B.bytes
  have hr := B.returns
  have hts := atoms_spec (ws := wsX5_isSatellite) B.pre
  have hown : s.vm.findClass RX5 = some m.cls := findClass_of_methodNamed B.named
  have hlocks := B.notSynchronized
  subst hsz
  have hD := hD0
  generalize hAe : va_A [] s.heap.size = A at ⊢
  have hA : ∀ q : Nat, s.heap.size ≤ q → A q := fun q h => by rw [← hAe]; exact Or.inr h
  have hS : va_S A s.heap s.heap [] := va_S.rf
  have hl := lv_entry ([.ref (a 30), .int x1]) (n := 2) (Nat.le_of_ble_eq_true rfl)
  rw [lg_entry_eq]
  generalize (lg_sl ([.ref (a 30), .int x1]) ++ List.replicate (2 - (lg_sl ([.ref (a 30), .int x1])).length) Slot.unset).toArray = ls at hl ⊢
  have hl : lv_has ls 2 [(0, .ref (a 30)), (1, .int x1)] := hl
  have hP : va_P D vwCl (wMo cI cJ cZ a th td nd n ld sl bd pw dt st uc sv tl so ag ns ss rg hw ax fu si au px pg py) s.heap := hP
  refine lv_iload_n hx hb dX5_isSatellite_0 rfl (lv_at hl 1 rfl) ?_
  refine lv_iconst (v := 0) hx hb dX5_isSatellite_1 (by decide) ?_
  refine lv_aload_n hx hb dX5_isSatellite_2 rfl (lv_at hl 0 rfl) ?_
  refine z_get (ci := 5) (C := RX5) (T := TX5) (N := 26) hx hb hts b_X5_isSatellite_wsX50 hown hK hP 0 rfl rfl 15 (by decide) (hts _ k_X5_isSatellite_1) rfl (.int (nI ns)) rfl dX5_isSatellite_3 ?_
  refine lv_iconst (v := 1) hx hb dX5_isSatellite_6 (by decide) ?_
  refine lv_isub hx hb dX5_isSatellite_7 ?_
  refine z_ri (va_runS (As := [.int x1, .int 0, .int ((nI ns) - 1)]) (rest := []) ⟨hx, hb, hml, hown, hts⟩ (c_X5_in l D cI cJ cZ a s.heap.size x1 0 ((nI ns) - 1)) (va_cwS 3 hts gX5_isSatellite_X5_in rfl rfl rfl (by decide +kernel) ⟨Nat.le_of_ble_eq_true rfl, Nat.le_of_ble_eq_true rfl⟩) (z_ps hK zP_0 zD_0 zT_b zT_m) rfl rfl hl.1 rfl (lv_room (Nat.le_of_ble_eq_true rfl)) dX5_isSatellite_8 ⟨Nat.le_of_ble_eq_true rfl, Nat.le_of_ble_eq_true rfl⟩) hP hS hA (fun r_1 _ H locs hr_1 hP hS => ?_)
  subst hr_1
  exact W.zret (v := F_in x1 0 ((nI ns) - 1)) hx hb hr (z_nb (F_in_01 _ _ _)) (fun t ht hW => ⟨⟨F_in x1 0 ((nI ns) - 1), (), rfl, (by first | with_reducible rfl | (simp only []; done) | (simp +decide only []; done) | (simp []; done) | (simp +decide []; done)), trivial⟩, hS.F ht⟩) hS.2.2 dX5_isSatellite_11
theorem k_X5_harmBy_3 : (Cond.fieldLink RX5 13 "OrbitregisterModel" "slot" "[I") ∈ wsX5_harmBy := List.mem_of_getElem? (i := 3) rfl
theorem b_X5_harmBy_wsX50 : ∀ w ∈ wsX50, w ∈ wsX5_harmBy := fun _ h => List.mem_cons_of_mem _ (List.mem_append_right _ h)
theorem k_X5_harmBy_1 : (Cond.fieldLink RX5 16 "OrbitregisterModel" "band" "[I") ∈ wsX5_harmBy := List.mem_of_getElem? (i := 1) rfl
theorem k_X5_harmBy_2 : (Cond.fieldLink RX5 25 "OrbitregisterModel" "state" "[I") ∈ wsX5_harmBy := List.mem_of_getElem? (i := 2) rfl
set_option maxHeartbeats 4000000 in
set_option maxRecDepth 100000 in
theorem c_X5_harmBy (l : Launch) (D : va_G) (cI cJ cZ : ClassId) (a : Nat → Nat) (sz : Nat) (th : Int32) (td : Int32) (nd : Int32) (n : Nat) (ld : A32) (sl : A32) (bd : A32) (pw : A32) (dt : A32) (st : A32) (uc : A32) (sv : A32) (tl : A32) (so : A32) (ag : A32) (ns : Nat) (ss : A32) (rg : A32) (hw : A32) (ax : A32) (fu : A32) (si : A32) (au : A32) (px : A32) (pg : A32) (py : A64) (x1 : Int32) (x1' : Nat) (e_x1 : x1 = nI x1') (h_x1 : x1' < 40) (fs : Int32) (w : Int32) (x2 : Int32) (x2' : Nat) (e_x2 : x2 = nI x2') (h_x2 : x2' < 40) : Met l yX5_harmBy wsX5_harmBy ({ frames := 1, cells := 0, slots := 0, locals := 22 }) (va_Pc [.ref (a 30), .int x1, .int fs, .int w, .int x2] (ZP D (zt cI cJ cZ) (wMo cI cJ cZ a th td nd n ld sl bd pw dt st uc sv tl so ag ns ss rg hw ax fu si au px pg py) sz zT)) (va_Qi (fun (r : Int32) (_ : Unit) => r = G_harm bd st sl x1' fs w x2') (fun _ _ => True) (va_A [] sz)) 0 0 (va_A [] sz) := by
  refine Met.ofW (cc := cX5_harmBy) (maxL := 7) (ret := (some .int)) (by decide) rfl ?_
  intro p e s m args below meth c s₁ B hml hv
  obtain ⟨rfl, hsz, hP, hK, hD0, hE⟩ := hv
  have hx := B.exec
  have hb := B.bytes
  have hr := B.returns
  have hts := atoms_spec (ws := wsX5_harmBy) B.pre
  have hown : s.vm.findClass RX5 = some m.cls := findClass_of_methodNamed B.named
  have hlocks := B.notSynchronized
  subst hsz
  have hD := hD0
  generalize hAe : va_A [] s.heap.size = A at ⊢
  have hA : ∀ q : Nat, s.heap.size ≤ q → A q := fun q h => by rw [← hAe]; exact Or.inr h
  have hS : va_S A s.heap s.heap [] := va_S.rf
  have hl := lv_entry ([.ref (a 30), .int x1, .int fs, .int w, .int x2]) (n := 7) (Nat.le_of_ble_eq_true rfl)
  rw [lg_entry_eq]
  generalize (lg_sl ([.ref (a 30), .int x1, .int fs, .int w, .int x2]) ++ List.replicate (7 - (lg_sl ([.ref (a 30), .int x1, .int fs, .int w, .int x2])).length) Slot.unset).toArray = ls at hl ⊢
  have hl : lv_has ls 7 [(0, .ref (a 30)), (1, .int x1), (2, .int fs), (3, .int w), (4, .int x2)] := hl
  have hP : va_P D vwCl (wMo cI cJ cZ a th td nd n ld sl bd pw dt st uc sv tl so ag ns ss rg hw ax fu si au px pg py) s.heap := hP
  refine lv_iload_n hx hb dX5_harmBy_0 rfl (lv_at hl 1 rfl) ?_
  refine lv_iload hx hb dX5_harmBy_1 (lv_at hl 4 rfl) ?_
  refine lv_icmp_eq (tgt := 47) hx hb dX5_harmBy_3 (by decide) (fun c_1 => ?_) (fun c_1 => ?_)
  · have f_1 := z_eqN (a := x1') (b := x2') c_1 e_x1 e_x2 (by omega) (by omega)
    refine lv_iconst (v := 0) hx hb dX5_harmBy_47 (by decide) ?_
    refine lv_istore (lv' := [(5, .int 0), (0, .ref (a 30)), (1, .int x1), (2, .int fs), (3, .int w), (4, .int x2)]) hx hb dX5_harmBy_48 hl (by decide) rfl (fun ls hl => ?_)
    refine lv_bipush (v := 12) hx hb dX5_harmBy_50 (by decide) ?_
    refine lv_iload_n hx hb dX5_harmBy_52 rfl (lv_at hl 3 rfl) ?_
    refine lv_aload_n hx hb dX5_harmBy_53 rfl (lv_at hl 1 rfl) ?_
    refine z_get (ci := 5) (C := RX5) (T := TX5) (N := 26) hx hb hts b_X5_harmBy_wsX50 hown hK hP 0 rfl rfl 5 (by decide) (hts _ k_X5_harmBy_3) rfl (.ref (a 32)) rfl dX5_harmBy_54 ?_
    refine lv_iload hx hb dX5_harmBy_57 (lv_at hl 5 rfl) ?_
    refine z_iald hx hb hK hP 2 0 rfl rfl x2' e_x2 (by omega) rfl dX5_harmBy_59 ?_
    refine z_ri (va_runS (As := [.int fs, .int (sl x2')]) (rest := [.int 12]) ⟨hx, hb, hml, hown, hts⟩ (c_X5_apart l D cI cJ cZ a s.heap.size fs (sl x2')) (va_cwS 2 hts gX5_harmBy_X5_apart rfl rfl rfl (by decide +kernel) ⟨Nat.le_of_ble_eq_true rfl, Nat.le_of_ble_eq_true rfl⟩) (z_ps hK zP_0 zD_0 zT_b zT_m) rfl rfl hl.1 rfl (lv_room (Nat.le_of_ble_eq_true rfl)) dX5_harmBy_60 ⟨Nat.le_of_ble_eq_true rfl, Nat.le_of_ble_eq_true rfl⟩) hP hS hA (fun r_2 _ H locs hr_2 hP hS => ?_)
    subst hr_2
    refine lv_isub hx hb dX5_harmBy_63 ?_
    refine lv_istore (lv' := [(6, .int (12 - (G_apart fs (sl x2')))), (5, .int 0), (0, .ref (a 30)), (1, .int x1), (2, .int fs), (3, .int w), (4, .int x2)]) hx hb dX5_harmBy_64 hl (by decide) rfl (fun ls hl => ?_)
    refine lv_iload hx hb dX5_harmBy_66 (lv_at hl 1 rfl) ?_
    refine lv_if_eq (tgt := 83) hx hb dX5_harmBy_68 (by decide) (fun _ => ?_) (fun c9 => absurd (by decide) c9)
    refine lv_iconst (v := 0) hx hb dX5_harmBy_83 (by decide) ?_
    exact W.iret (v := 0) hx hb hr (fun t ht hW => ⟨⟨0, (), rfl, (by first | with_reducible rfl | (simp only [G_harm, if_pos c_1, if_pos f_1]; done) | (simp +decide only [G_harm, f_1, if_pos c_1, if_pos f_1]; done) | (simp [G_harm, c_1, f_1, f_1]; done) | (simp +decide [G_harm, c_1, f_1, f_1]; done)), trivial⟩, hS.F ht⟩) hS.2.2 dX5_harmBy_84
  · have f_1 := z_neN (a := x1') (b := x2') c_1 e_x1 e_x2 (by omega) (by omega)
    refine lv_aload_n hx hb dX5_harmBy_6 rfl (lv_at hl 0 rfl) ?_
    refine z_get (ci := 5) (C := RX5) (T := TX5) (N := 26) hx hb hts b_X5_harmBy_wsX50 hown hK hP 0 rfl rfl 6 (by decide) (hts _ k_X5_harmBy_1) rfl (.ref (a 33)) rfl dX5_harmBy_7 ?_
    refine lv_iload_n hx hb dX5_harmBy_10 rfl (lv_at hl 1 rfl) ?_
    refine z_iald hx hb hK hP 3 0 rfl rfl x1' e_x1 (by omega) rfl dX5_harmBy_11 ?_
    refine lv_aload_n hx hb dX5_harmBy_12 rfl (lv_at hl 0 rfl) ?_
    refine z_get (ci := 5) (C := RX5) (T := TX5) (N := 26) hx hb hts b_X5_harmBy_wsX50 hown hK hP 0 rfl rfl 6 (by decide) (hts _ k_X5_harmBy_1) rfl (.ref (a 33)) rfl dX5_harmBy_13 ?_
    refine lv_iload hx hb dX5_harmBy_16 (lv_at hl 4 rfl) ?_
    refine z_iald hx hb hK hP 3 0 rfl rfl x2' e_x2 (by omega) rfl dX5_harmBy_18 ?_
    refine lv_icmp_ne (tgt := 47) hx hb dX5_harmBy_19 (by decide) (fun c_3 => ?_) (fun c_3 => ?_)
    · refine lv_iconst (v := 0) hx hb dX5_harmBy_47 (by decide) ?_
      refine lv_istore (lv' := [(5, .int 0), (0, .ref (a 30)), (1, .int x1), (2, .int fs), (3, .int w), (4, .int x2)]) hx hb dX5_harmBy_48 hl (by decide) rfl (fun ls hl => ?_)
      refine lv_bipush (v := 12) hx hb dX5_harmBy_50 (by decide) ?_
      refine lv_iload_n hx hb dX5_harmBy_52 rfl (lv_at hl 3 rfl) ?_
      refine lv_aload_n hx hb dX5_harmBy_53 rfl (lv_at hl 1 rfl) ?_
      refine z_get (ci := 5) (C := RX5) (T := TX5) (N := 26) hx hb hts b_X5_harmBy_wsX50 hown hK hP 0 rfl rfl 5 (by decide) (hts _ k_X5_harmBy_3) rfl (.ref (a 32)) rfl dX5_harmBy_54 ?_
      refine lv_iload hx hb dX5_harmBy_57 (lv_at hl 5 rfl) ?_
      refine z_iald hx hb hK hP 2 0 rfl rfl x2' e_x2 (by omega) rfl dX5_harmBy_59 ?_
      refine z_ri (va_runS (As := [.int fs, .int (sl x2')]) (rest := [.int 12]) ⟨hx, hb, hml, hown, hts⟩ (c_X5_apart l D cI cJ cZ a s.heap.size fs (sl x2')) (va_cwS 2 hts gX5_harmBy_X5_apart rfl rfl rfl (by decide +kernel) ⟨Nat.le_of_ble_eq_true rfl, Nat.le_of_ble_eq_true rfl⟩) (z_ps hK zP_0 zD_0 zT_b zT_m) rfl rfl hl.1 rfl (lv_room (Nat.le_of_ble_eq_true rfl)) dX5_harmBy_60 ⟨Nat.le_of_ble_eq_true rfl, Nat.le_of_ble_eq_true rfl⟩) hP hS hA (fun r_4 _ H locs hr_4 hP hS => ?_)
      subst hr_4
      refine lv_isub hx hb dX5_harmBy_63 ?_
      refine lv_istore (lv' := [(6, .int (12 - (G_apart fs (sl x2')))), (5, .int 0), (0, .ref (a 30)), (1, .int x1), (2, .int fs), (3, .int w), (4, .int x2)]) hx hb dX5_harmBy_64 hl (by decide) rfl (fun ls hl => ?_)
      refine lv_iload hx hb dX5_harmBy_66 (lv_at hl 1 rfl) ?_
      refine lv_if_eq (tgt := 83) hx hb dX5_harmBy_68 (by decide) (fun _ => ?_) (fun c9 => absurd (by decide) c9)
      refine lv_iconst (v := 0) hx hb dX5_harmBy_83 (by decide) ?_
      exact W.iret (v := 0) hx hb hr (fun t ht hW => ⟨⟨0, (), rfl, (by first | with_reducible rfl | (simp only [G_harm, if_neg c_1, if_neg f_1, if_neg c_3]; done) | (simp +decide only [G_harm, f_1, if_neg c_1, if_neg f_1, if_neg c_3]; done) | (simp [G_harm, c_1, f_1, c_3, f_1]; done) | (simp +decide [G_harm, c_1, f_1, c_3, f_1]; done)), trivial⟩, hS.F ht⟩) hS.2.2 dX5_harmBy_84
    · refine lv_aload_n hx hb dX5_harmBy_22 rfl (lv_at hl 0 rfl) ?_
      refine z_get (ci := 5) (C := RX5) (T := TX5) (N := 26) hx hb hts b_X5_harmBy_wsX50 hown hK hP 0 rfl rfl 9 (by decide) (hts _ k_X5_harmBy_2) rfl (.ref (a 36)) rfl dX5_harmBy_23 ?_
      refine lv_iload_n hx hb dX5_harmBy_26 rfl (lv_at hl 1 rfl) ?_
      refine z_iald hx hb hK hP 6 0 rfl rfl x1' e_x1 (by omega) rfl dX5_harmBy_27 ?_
      refine lv_iconst (v := 4) hx hb dX5_harmBy_28 (by decide) ?_
      refine lv_icmp_eq (tgt := 47) hx hb dX5_harmBy_29 (by decide) (fun c_5 => ?_) (fun c_5 => ?_)
      · refine lv_iconst (v := 0) hx hb dX5_harmBy_47 (by decide) ?_
        refine lv_istore (lv' := [(5, .int 0), (0, .ref (a 30)), (1, .int x1), (2, .int fs), (3, .int w), (4, .int x2)]) hx hb dX5_harmBy_48 hl (by decide) rfl (fun ls hl => ?_)
        refine lv_bipush (v := 12) hx hb dX5_harmBy_50 (by decide) ?_
        refine lv_iload_n hx hb dX5_harmBy_52 rfl (lv_at hl 3 rfl) ?_
        refine lv_aload_n hx hb dX5_harmBy_53 rfl (lv_at hl 1 rfl) ?_
        refine z_get (ci := 5) (C := RX5) (T := TX5) (N := 26) hx hb hts b_X5_harmBy_wsX50 hown hK hP 0 rfl rfl 5 (by decide) (hts _ k_X5_harmBy_3) rfl (.ref (a 32)) rfl dX5_harmBy_54 ?_
        refine lv_iload hx hb dX5_harmBy_57 (lv_at hl 5 rfl) ?_
        refine z_iald hx hb hK hP 2 0 rfl rfl x2' e_x2 (by omega) rfl dX5_harmBy_59 ?_
        refine z_ri (va_runS (As := [.int fs, .int (sl x2')]) (rest := [.int 12]) ⟨hx, hb, hml, hown, hts⟩ (c_X5_apart l D cI cJ cZ a s.heap.size fs (sl x2')) (va_cwS 2 hts gX5_harmBy_X5_apart rfl rfl rfl (by decide +kernel) ⟨Nat.le_of_ble_eq_true rfl, Nat.le_of_ble_eq_true rfl⟩) (z_ps hK zP_0 zD_0 zT_b zT_m) rfl rfl hl.1 rfl (lv_room (Nat.le_of_ble_eq_true rfl)) dX5_harmBy_60 ⟨Nat.le_of_ble_eq_true rfl, Nat.le_of_ble_eq_true rfl⟩) hP hS hA (fun r_6 _ H locs hr_6 hP hS => ?_)
        subst hr_6
        refine lv_isub hx hb dX5_harmBy_63 ?_
        refine lv_istore (lv' := [(6, .int (12 - (G_apart fs (sl x2')))), (5, .int 0), (0, .ref (a 30)), (1, .int x1), (2, .int fs), (3, .int w), (4, .int x2)]) hx hb dX5_harmBy_64 hl (by decide) rfl (fun ls hl => ?_)
        refine lv_iload hx hb dX5_harmBy_66 (lv_at hl 1 rfl) ?_
        refine lv_if_eq (tgt := 83) hx hb dX5_harmBy_68 (by decide) (fun _ => ?_) (fun c9 => absurd (by decide) c9)
        refine lv_iconst (v := 0) hx hb dX5_harmBy_83 (by decide) ?_
        exact W.iret (v := 0) hx hb hr (fun t ht hW => ⟨⟨0, (), rfl, (by first | with_reducible rfl | (simp only [G_harm, if_neg c_1, if_neg f_1, if_pos c_3, if_pos c_5]; done) | (simp +decide only [G_harm, f_1, if_neg c_1, if_neg f_1, if_pos c_3, if_pos c_5]; done) | (simp [G_harm, c_1, f_1, c_3, c_5, f_1]; done) | (simp +decide [G_harm, c_1, f_1, c_3, c_5, f_1]; done)), trivial⟩, hS.F ht⟩) hS.2.2 dX5_harmBy_84
      · refine lv_aload_n hx hb dX5_harmBy_32 rfl (lv_at hl 0 rfl) ?_
        refine z_get (ci := 5) (C := RX5) (T := TX5) (N := 26) hx hb hts b_X5_harmBy_wsX50 hown hK hP 0 rfl rfl 9 (by decide) (hts _ k_X5_harmBy_2) rfl (.ref (a 36)) rfl dX5_harmBy_33 ?_
        refine lv_iload hx hb dX5_harmBy_36 (lv_at hl 4 rfl) ?_
        refine z_iald hx hb hK hP 6 0 rfl rfl x2' e_x2 (by omega) rfl dX5_harmBy_38 ?_
        refine lv_iconst (v := 4) hx hb dX5_harmBy_39 (by decide) ?_
        refine lv_icmp_eq (tgt := 47) hx hb dX5_harmBy_40 (by decide) (fun c_7 => ?_) (fun c_7 => ?_)
        · refine lv_iconst (v := 0) hx hb dX5_harmBy_47 (by decide) ?_
          refine lv_istore (lv' := [(5, .int 0), (0, .ref (a 30)), (1, .int x1), (2, .int fs), (3, .int w), (4, .int x2)]) hx hb dX5_harmBy_48 hl (by decide) rfl (fun ls hl => ?_)
          refine lv_bipush (v := 12) hx hb dX5_harmBy_50 (by decide) ?_
          refine lv_iload_n hx hb dX5_harmBy_52 rfl (lv_at hl 3 rfl) ?_
          refine lv_aload_n hx hb dX5_harmBy_53 rfl (lv_at hl 1 rfl) ?_
          refine z_get (ci := 5) (C := RX5) (T := TX5) (N := 26) hx hb hts b_X5_harmBy_wsX50 hown hK hP 0 rfl rfl 5 (by decide) (hts _ k_X5_harmBy_3) rfl (.ref (a 32)) rfl dX5_harmBy_54 ?_
          refine lv_iload hx hb dX5_harmBy_57 (lv_at hl 5 rfl) ?_
          refine z_iald hx hb hK hP 2 0 rfl rfl x2' e_x2 (by omega) rfl dX5_harmBy_59 ?_
          refine z_ri (va_runS (As := [.int fs, .int (sl x2')]) (rest := [.int 12]) ⟨hx, hb, hml, hown, hts⟩ (c_X5_apart l D cI cJ cZ a s.heap.size fs (sl x2')) (va_cwS 2 hts gX5_harmBy_X5_apart rfl rfl rfl (by decide +kernel) ⟨Nat.le_of_ble_eq_true rfl, Nat.le_of_ble_eq_true rfl⟩) (z_ps hK zP_0 zD_0 zT_b zT_m) rfl rfl hl.1 rfl (lv_room (Nat.le_of_ble_eq_true rfl)) dX5_harmBy_60 ⟨Nat.le_of_ble_eq_true rfl, Nat.le_of_ble_eq_true rfl⟩) hP hS hA (fun r_8 _ H locs hr_8 hP hS => ?_)
          subst hr_8
          refine lv_isub hx hb dX5_harmBy_63 ?_
          refine lv_istore (lv' := [(6, .int (12 - (G_apart fs (sl x2')))), (5, .int 0), (0, .ref (a 30)), (1, .int x1), (2, .int fs), (3, .int w), (4, .int x2)]) hx hb dX5_harmBy_64 hl (by decide) rfl (fun ls hl => ?_)
          refine lv_iload hx hb dX5_harmBy_66 (lv_at hl 1 rfl) ?_
          refine lv_if_eq (tgt := 83) hx hb dX5_harmBy_68 (by decide) (fun _ => ?_) (fun c9 => absurd (by decide) c9)
          refine lv_iconst (v := 0) hx hb dX5_harmBy_83 (by decide) ?_
          exact W.iret (v := 0) hx hb hr (fun t ht hW => ⟨⟨0, (), rfl, (by first | with_reducible rfl | (simp only [G_harm, if_neg c_1, if_neg f_1, if_pos c_3, if_neg c_5, if_pos c_7]; done) | (simp +decide only [G_harm, f_1, if_neg c_1, if_neg f_1, if_pos c_3, if_neg c_5, if_pos c_7]; done) | (simp [G_harm, c_1, f_1, c_3, c_5, c_7, f_1]; done) | (simp +decide [G_harm, c_1, f_1, c_3, c_5, c_7, f_1]; done)), trivial⟩, hS.F ht⟩) hS.2.2 dX5_harmBy_84
        · refine lv_iconst (v := 1) hx hb dX5_harmBy_43 (by decide) ?_
          refine lv_goto (tgt := 48) hx hb dX5_harmBy_44 (by decide) ?_
          refine lv_istore (lv' := [(5, .int 1), (0, .ref (a 30)), (1, .int x1), (2, .int fs), (3, .int w), (4, .int x2)]) hx hb dX5_harmBy_48 hl (by decide) rfl (fun ls hl => ?_)
          refine lv_bipush (v := 12) hx hb dX5_harmBy_50 (by decide) ?_
          refine lv_iload_n hx hb dX5_harmBy_52 rfl (lv_at hl 3 rfl) ?_
          refine lv_aload_n hx hb dX5_harmBy_53 rfl (lv_at hl 1 rfl) ?_
          refine z_get (ci := 5) (C := RX5) (T := TX5) (N := 26) hx hb hts b_X5_harmBy_wsX50 hown hK hP 0 rfl rfl 5 (by decide) (hts _ k_X5_harmBy_3) rfl (.ref (a 32)) rfl dX5_harmBy_54 ?_
          refine lv_iload hx hb dX5_harmBy_57 (lv_at hl 5 rfl) ?_
          refine z_iald hx hb hK hP 2 0 rfl rfl x2' e_x2 (by omega) rfl dX5_harmBy_59 ?_
          refine z_ri (va_runS (As := [.int fs, .int (sl x2')]) (rest := [.int 12]) ⟨hx, hb, hml, hown, hts⟩ (c_X5_apart l D cI cJ cZ a s.heap.size fs (sl x2')) (va_cwS 2 hts gX5_harmBy_X5_apart rfl rfl rfl (by decide +kernel) ⟨Nat.le_of_ble_eq_true rfl, Nat.le_of_ble_eq_true rfl⟩) (z_ps hK zP_0 zD_0 zT_b zT_m) rfl rfl hl.1 rfl (lv_room (Nat.le_of_ble_eq_true rfl)) dX5_harmBy_60 ⟨Nat.le_of_ble_eq_true rfl, Nat.le_of_ble_eq_true rfl⟩) hP hS hA (fun r_9 _ H locs hr_9 hP hS => ?_)
          subst hr_9
          refine lv_isub hx hb dX5_harmBy_63 ?_
          refine lv_istore (lv' := [(6, .int (12 - (G_apart fs (sl x2')))), (5, .int 1), (0, .ref (a 30)), (1, .int x1), (2, .int fs), (3, .int w), (4, .int x2)]) hx hb dX5_harmBy_64 hl (by decide) rfl (fun ls hl => ?_)
          refine lv_iload hx hb dX5_harmBy_66 (lv_at hl 1 rfl) ?_
          refine lv_if_eq (tgt := 83) hx hb dX5_harmBy_68 (by decide) (fun c9 => absurd c9 (by decide)) (fun _ => ?_)
          refine lv_iload hx hb dX5_harmBy_71 (lv_at hl 0 rfl) ?_
          refine lv_if_le (tgt := 83) hx hb dX5_harmBy_73 (by decide) (fun c_10 => ?_) (fun c_10 => ?_)
          · refine lv_iconst (v := 0) hx hb dX5_harmBy_83 (by decide) ?_
            exact W.iret (v := 0) hx hb hr (fun t ht hW => ⟨⟨0, (), rfl, (by first | with_reducible rfl | (simp only [G_harm, if_neg c_1, if_neg f_1, if_pos c_3, if_neg c_5, if_neg c_7, if_pos c_10]; done) | (simp +decide only [G_harm, f_1, if_neg c_1, if_neg f_1, if_pos c_3, if_neg c_5, if_neg c_7, if_pos c_10]; done) | (simp [G_harm, c_1, f_1, c_3, c_5, c_7, c_10, f_1]; done) | (simp +decide [G_harm, c_1, f_1, c_3, c_5, c_7, c_10, f_1]; done)), trivial⟩, hS.F ht⟩) hS.2.2 dX5_harmBy_84
          · refine lv_iload_n hx hb dX5_harmBy_76 rfl (lv_at hl 5 rfl) ?_
            refine lv_iload hx hb dX5_harmBy_77 (lv_at hl 0 rfl) ?_
            refine lv_imul hx hb dX5_harmBy_79 ?_
            refine lv_goto (tgt := 84) hx hb dX5_harmBy_80 (by decide) ?_
            exact W.iret (v := w * (12 - (G_apart fs (sl x2')))) hx hb hr (fun t ht hW => ⟨⟨w * (12 - (G_apart fs (sl x2'))), (), rfl, (by first | with_reducible rfl | (simp only [G_harm, if_neg c_1, if_neg f_1, if_pos c_3, if_neg c_5, if_neg c_7, if_neg c_10]; done) | (simp +decide only [G_harm, f_1, if_neg c_1, if_neg f_1, if_pos c_3, if_neg c_5, if_neg c_7, if_neg c_10]; done) | (simp [G_harm, c_1, f_1, c_3, c_5, c_7, c_10, f_1]; done) | (simp +decide [G_harm, c_1, f_1, c_3, c_5, c_7, c_10, f_1]; done)), trivial⟩, hS.F ht⟩) hS.2.2 dX5_harmBy_84
theorem k_X5_harmOf_1 : (Cond.fieldLink RX5 13 "OrbitregisterModel" "slot" "[I") ∈ wsX5_harmOf := List.mem_of_getElem? (i := 1) rfl
theorem b_X5_harmOf_wsX50 : ∀ w ∈ wsX50, w ∈ wsX5_harmOf := fun _ h => List.mem_cons_of_mem _ (List.mem_append_right _ h)
theorem k_X5_harmOf_2 : (Cond.fieldLink RX5 19 "OrbitregisterModel" "power" "[I") ∈ wsX5_harmOf := List.mem_of_getElem? (i := 2) rfl
set_option maxHeartbeats 4000000 in
set_option maxRecDepth 100000 in
theorem c_X5_harmOf (l : Launch) (D : va_G) (cI cJ cZ : ClassId) (a : Nat → Nat) (sz : Nat) (th : Int32) (td : Int32) (nd : Int32) (n : Nat) (ld : A32) (sl : A32) (bd : A32) (pw : A32) (dt : A32) (st : A32) (uc : A32) (sv : A32) (tl : A32) (so : A32) (ag : A32) (ns : Nat) (ss : A32) (rg : A32) (hw : A32) (ax : A32) (fu : A32) (si : A32) (au : A32) (px : A32) (pg : A32) (py : A64) (x1 : Int32) (x1' : Nat) (e_x1 : x1 = nI x1') (h_x1 : x1' < 40) (x2 : Int32) (x2' : Nat) (e_x2 : x2 = nI x2') (h_x2 : x2' < 40) : Met l yX5_harmOf wsX5_harmOf ({ frames := 2, cells := 0, slots := 0, locals := 48 }) (va_Pc [.ref (a 30), .int x1, .int x2] (ZP D (zt cI cJ cZ) (wMo cI cJ cZ a th td nd n ld sl bd pw dt st uc sv tl so ag ns ss rg hw ax fu si au px pg py) sz zT)) (va_Qi (fun (r : Int32) (_ : Unit) => r = G_harmOf bd st sl pw x1' x2') (fun _ _ => True) (va_A [] sz)) 0 0 (va_A [] sz) := by
  refine Met.ofW (cc := cX5_harmOf) (maxL := 3) (ret := (some .int)) (by decide) rfl ?_
  intro p e s m args below meth c s₁ B hml hv
  obtain ⟨rfl, hsz, hP, hK, hD0, hE⟩ := hv
  have hx := B.exec
  have hb := B.bytes
  have hr := B.returns
  have hts := atoms_spec (ws := wsX5_harmOf) B.pre
  have hown : s.vm.findClass RX5 = some m.cls := findClass_of_methodNamed B.named
  have hlocks := B.notSynchronized
  subst hsz
  have hD := hD0
  generalize hAe : va_A [] s.heap.size = A at ⊢
  have hA : ∀ q : Nat, s.heap.size ≤ q → A q := fun q h => by rw [← hAe]; exact Or.inr h
  have hS : va_S A s.heap s.heap [] := va_S.rf
  have hl := lv_entry ([.ref (a 30), .int x1, .int x2]) (n := 3) (Nat.le_of_ble_eq_true rfl)
  rw [lg_entry_eq]
  generalize (lg_sl ([.ref (a 30), .int x1, .int x2]) ++ List.replicate (3 - (lg_sl ([.ref (a 30), .int x1, .int x2])).length) Slot.unset).toArray = ls at hl ⊢
  have hl : lv_has ls 3 [(0, .ref (a 30)), (1, .int x1), (2, .int x2)] := hl
  have hP : va_P D vwCl (wMo cI cJ cZ a th td nd n ld sl bd pw dt st uc sv tl so ag ns ss rg hw ax fu si au px pg py) s.heap := hP
  refine lv_aload_n hx hb dX5_harmOf_0 rfl (lv_at hl 0 rfl) ?_
  refine lv_iload_n hx hb dX5_harmOf_1 rfl (lv_at hl 1 rfl) ?_
  refine lv_aload_n hx hb dX5_harmOf_2 rfl (lv_at hl 0 rfl) ?_
  refine z_get (ci := 5) (C := RX5) (T := TX5) (N := 26) hx hb hts b_X5_harmOf_wsX50 hown hK hP 0 rfl rfl 5 (by decide) (hts _ k_X5_harmOf_1) rfl (.ref (a 32)) rfl dX5_harmOf_3 ?_
  refine lv_iload_n hx hb dX5_harmOf_6 rfl (lv_at hl 1 rfl) ?_
  refine z_iald hx hb hK hP 2 0 rfl rfl x1' e_x1 (by omega) rfl dX5_harmOf_7 ?_
  refine lv_aload_n hx hb dX5_harmOf_8 rfl (lv_at hl 0 rfl) ?_
  refine z_get (ci := 5) (C := RX5) (T := TX5) (N := 26) hx hb hts b_X5_harmOf_wsX50 hown hK hP 0 rfl rfl 7 (by decide) (hts _ k_X5_harmOf_2) rfl (.ref (a 34)) rfl dX5_harmOf_9 ?_
  refine lv_iload_n hx hb dX5_harmOf_12 rfl (lv_at hl 1 rfl) ?_
  refine z_iald hx hb hK hP 4 0 rfl rfl x1' e_x1 (by omega) rfl dX5_harmOf_13 ?_
  refine lv_iload_n hx hb dX5_harmOf_14 rfl (lv_at hl 2 rfl) ?_
  refine z_ri (va_runV (As := [.int x1, .int (sl x1'), .int (pw x1'), .int x2]) (rest := []) ⟨hx, hb, hml, hown, hts⟩ (c_X5_harmBy l D cI cJ cZ a s.heap.size th td nd n ld sl bd pw dt st uc sv tl so ag ns ss rg hw ax fu si au px pg py x1 x1' e_x1 (by omega) (sl x1') (pw x1') x2 x2' e_x2 (by omega)) (cwV 4 hts gX5_harmOf_X5_harmBy rfl rfl rfl (by decide +kernel) ⟨Nat.le_of_ble_eq_true rfl, Nat.le_of_ble_eq_true rfl⟩) (z_pv hK hP hD (q0 := 0) (ci := 5) rfl rfl zT_b zT_m) rfl rfl hl.1 rfl (lv_room (Nat.le_of_ble_eq_true rfl)) dX5_harmOf_15 ⟨Nat.le_of_ble_eq_true rfl, Nat.le_of_ble_eq_true rfl⟩) hP hS hA (fun r_1 _ H locs hr_1 hP hS => ?_)
  subst hr_1
  exact W.iret (v := G_harm bd st sl x1' (sl x1') (pw x1') x2') hx hb hr (fun t ht hW => ⟨⟨G_harm bd st sl x1' (sl x1') (pw x1') x2', (), rfl, (by first | with_reducible rfl | (simp only [G_harmOf]; done) | (simp +decide only [G_harmOf]; done) | (simp [G_harmOf]; done) | (simp +decide [G_harmOf]; done)), trivial⟩, hS.F ht⟩) hS.2.2 dX5_harmOf_18
theorem k_X5_freely_1 : (Cond.fieldLink RX5 41 "OrbitregisterModel" "agreed" "[I") ∈ wsX5_freely := List.mem_of_getElem? (i := 1) rfl
theorem b_X5_freely_wsX50 : ∀ w ∈ wsX50, w ∈ wsX5_freely := fun _ h => List.mem_cons_of_mem _ (List.mem_append_right _ h)
set_option maxHeartbeats 4000000 in
set_option maxRecDepth 100000 in
theorem c_X5_freely (l : Launch) (D : va_G) (cI cJ cZ : ClassId) (a : Nat → Nat) (sz : Nat) (th : Int32) (td : Int32) (nd : Int32) (n : Nat) (ld : A32) (sl : A32) (bd : A32) (pw : A32) (dt : A32) (st : A32) (uc : A32) (sv : A32) (tl : A32) (so : A32) (ag : A32) (ns : Nat) (ss : A32) (rg : A32) (hw : A32) (ax : A32) (fu : A32) (si : A32) (au : A32) (px : A32) (pg : A32) (py : A64) (x1 : Int32) (x1' : Nat) (e_x1 : x1 = nI x1') (h_x1 : x1' < 40) (x2 : Int32) (x2' : Nat) (e_x2 : x2 = nI x2') (h_x2 : x2' < 40) : Met l yX5_freely wsX5_freely ({ frames := 0, cells := 0, slots := 0, locals := 0 }) (va_Pc [.ref (a 30), .int x1, .int x2] (ZP D (zt cI cJ cZ) (wMo cI cJ cZ a th td nd n ld sl bd pw dt st uc sv tl so ag ns ss rg hw ax fu si au px pg py) sz zT)) (va_Qi (fun (r : Int32) (_ : Unit) => r = G_free ag x1' x2') (fun _ _ => True) (va_A [] sz)) 0 0 (va_A [] sz) := by
  refine Met.ofW (cc := cX5_freely) (maxL := 4) (ret := (some .int)) (by decide) rfl ?_
  intro p e s m args below meth c s₁ B hml hv
  obtain ⟨rfl, hsz, hP, hK, hD0, hE⟩ := hv
  have hx := B.exec
  have hb := B.bytes
  have hr := B.returns
  have hts := atoms_spec (ws := wsX5_freely) B.pre
  have hown : s.vm.findClass RX5 = some m.cls := findClass_of_methodNamed B.named
  have hlocks := B.notSynchronized
  subst hsz
  have hD := hD0
  generalize hAe : va_A [] s.heap.size = A at ⊢
  have hA : ∀ q : Nat, s.heap.size ≤ q → A q := fun q h => by rw [← hAe]; exact Or.inr h
  have hS : va_S A s.heap s.heap [] := va_S.rf
  have hl := lv_entry ([.ref (a 30), .int x1, .int x2]) (n := 4) (Nat.le_of_ble_eq_true rfl)
  rw [lg_entry_eq]
  generalize (lg_sl ([.ref (a 30), .int x1, .int x2]) ++ List.replicate (4 - (lg_sl ([.ref (a 30), .int x1, .int x2])).length) Slot.unset).toArray = ls at hl ⊢
  have hl : lv_has ls 4 [(0, .ref (a 30)), (1, .int x1), (2, .int x2)] := hl
  have hP : va_P D vwCl (wMo cI cJ cZ a th td nd n ld sl bd pw dt st uc sv tl so ag ns ss rg hw ax fu si au px pg py) s.heap := hP
  refine lv_aload_n hx hb dX5_freely_0 rfl (lv_at hl 0 rfl) ?_
  refine z_get (ci := 5) (C := RX5) (T := TX5) (N := 26) hx hb hts b_X5_freely_wsX50 hown hK hP 0 rfl rfl 14 (by decide) (hts _ k_X5_freely_1) rfl (.ref (a 41)) rfl dX5_freely_1 ?_
  refine lv_bipush (v := 40) hx hb dX5_freely_4 (by decide) ?_
  refine lv_iload_n hx hb dX5_freely_6 rfl (lv_at hl 1 rfl) ?_
  refine lv_imul hx hb dX5_freely_7 ?_
  refine lv_iload_n hx hb dX5_freely_8 rfl (lv_at hl 2 rfl) ?_
  refine lv_iadd hx hb dX5_freely_9 ?_
  refine z_iald hx hb hK hP 11 0 rfl rfl ((40 * x1') + x2') (z_iadd (z_imul (by decide) e_x1) e_x2) (by omega) rfl dX5_freely_10 ?_
  refine lv_istore_n (lv' := [(3, .int (ag ((40 * x1') + x2'))), (0, .ref (a 30)), (1, .int x1), (2, .int x2)]) hx hb dX5_freely_11 rfl hl (by decide) rfl (fun ls hl => ?_)
  refine lv_iload_n hx hb dX5_freely_12 rfl (lv_at hl 0 rfl) ?_
  refine lv_iconst (v := (-1)) hx hb dX5_freely_13 (by decide) ?_
  refine lv_icmp_ne (tgt := 22) hx hb dX5_freely_14 (by decide) (fun c_1 => ?_) (fun c_1 => ?_)
  · refine lv_iload_n hx hb dX5_freely_22 rfl (lv_at hl 0 rfl) ?_
    exact W.iret (v := ag ((40 * x1') + x2')) hx hb hr (fun t ht hW => ⟨⟨ag ((40 * x1') + x2'), (), rfl, (by first | with_reducible rfl | (simp only [G_free, if_neg c_1]; done) | (simp +decide only [G_free, if_neg c_1]; done) | (simp [G_free, c_1]; done) | (simp +decide [G_free, c_1]; done)), trivial⟩, hS.F ht⟩) hS.2.2 dX5_freely_23
  · refine lv_bipush (v := 20) hx hb dX5_freely_17 (by decide) ?_
    refine lv_goto (tgt := 23) hx hb dX5_freely_19 (by decide) ?_
    exact W.iret (v := 20) hx hb hr (fun t ht hW => ⟨⟨20, (), rfl, (by first | with_reducible rfl | (simp only [G_free, if_pos c_1]; done) | (simp +decide only [G_free, if_pos c_1]; done) | (simp [G_free, c_1]; done) | (simp +decide [G_free, c_1]; done)), trivial⟩, hS.F ht⟩) hS.2.2 dX5_freely_23
theorem k_X5_isAhead_1 : (Cond.fieldLink RX5 22 "OrbitregisterModel" "date" "[I") ∈ wsX5_isAhead := List.mem_of_getElem? (i := 1) rfl
theorem b_X5_isAhead_wsX50 : ∀ w ∈ wsX50, w ∈ wsX5_isAhead := fun _ h => List.mem_cons_of_mem _ (List.mem_append_right _ h)
theorem k_X5_isAhead_2 : (Cond.fieldLink RX5 25 "OrbitregisterModel" "state" "[I") ∈ wsX5_isAhead := List.mem_of_getElem? (i := 2) rfl
set_option maxHeartbeats 4000000 in
set_option maxRecDepth 100000 in
theorem c_X5_isAhead (l : Launch) (D : va_G) (cI cJ cZ : ClassId) (a : Nat → Nat) (sz : Nat) (th : Int32) (td : Int32) (nd : Int32) (n : Nat) (ld : A32) (sl : A32) (bd : A32) (pw : A32) (dt : A32) (st : A32) (uc : A32) (sv : A32) (tl : A32) (so : A32) (ag : A32) (ns : Nat) (ss : A32) (rg : A32) (hw : A32) (ax : A32) (fu : A32) (si : A32) (au : A32) (px : A32) (pg : A32) (py : A64) (x1 : Int32) (x1' : Nat) (e_x1 : x1 = nI x1') (h_x1 : x1' < 40) (x2 : Int32) (x2' : Nat) (e_x2 : x2 = nI x2') (h_x2 : x2' < 40) : Met l yX5_isAhead wsX5_isAhead ({ frames := 0, cells := 0, slots := 0, locals := 0 }) (va_Pc [.ref (a 30), .int x1, .int x2] (ZP D (zt cI cJ cZ) (wMo cI cJ cZ a th td nd n ld sl bd pw dt st uc sv tl so ag ns ss rg hw ax fu si au px pg py) sz zT)) (va_Qi (fun (r : Int32) (_ : Unit) => r = G_ahead dt st x1' x2') (fun _ _ => True) (va_A [] sz)) 0 0 (va_A [] sz) := by
  refine Met.ofW (cc := cX5_isAhead) (maxL := 3) (ret := (some .boolean)) (by decide) rfl ?_
  intro p e s m args below meth c s₁ B hml hv
  obtain ⟨rfl, hsz, hP, hK, hD0, hE⟩ := hv
  have hx := B.exec
  have hb := B.bytes
  have hr := B.returns
  have hts := atoms_spec (ws := wsX5_isAhead) B.pre
  have hown : s.vm.findClass RX5 = some m.cls := findClass_of_methodNamed B.named
  have hlocks := B.notSynchronized
  subst hsz
  have hD := hD0
  generalize hAe : va_A [] s.heap.size = A at ⊢
  have hA : ∀ q : Nat, s.heap.size ≤ q → A q := fun q h => by rw [← hAe]; exact Or.inr h
  have hS : va_S A s.heap s.heap [] := va_S.rf
  have hl := lv_entry ([.ref (a 30), .int x1, .int x2]) (n := 3) (Nat.le_of_ble_eq_true rfl)
  rw [lg_entry_eq]
  generalize (lg_sl ([.ref (a 30), .int x1, .int x2]) ++ List.replicate (3 - (lg_sl ([.ref (a 30), .int x1, .int x2])).length) Slot.unset).toArray = ls at hl ⊢
  have hl : lv_has ls 3 [(0, .ref (a 30)), (1, .int x1), (2, .int x2)] := hl
  have hP : va_P D vwCl (wMo cI cJ cZ a th td nd n ld sl bd pw dt st uc sv tl so ag ns ss rg hw ax fu si au px pg py) s.heap := hP
  refine lv_aload_n hx hb dX5_isAhead_0 rfl (lv_at hl 0 rfl) ?_
  refine z_get (ci := 5) (C := RX5) (T := TX5) (N := 26) hx hb hts b_X5_isAhead_wsX50 hown hK hP 0 rfl rfl 8 (by decide) (hts _ k_X5_isAhead_1) rfl (.ref (a 35)) rfl dX5_isAhead_1 ?_
  refine lv_iload_n hx hb dX5_isAhead_4 rfl (lv_at hl 1 rfl) ?_
  refine z_iald hx hb hK hP 5 0 rfl rfl x1' e_x1 (by omega) rfl dX5_isAhead_5 ?_
  refine lv_aload_n hx hb dX5_isAhead_6 rfl (lv_at hl 0 rfl) ?_
  refine z_get (ci := 5) (C := RX5) (T := TX5) (N := 26) hx hb hts b_X5_isAhead_wsX50 hown hK hP 0 rfl rfl 8 (by decide) (hts _ k_X5_isAhead_1) rfl (.ref (a 35)) rfl dX5_isAhead_7 ?_
  refine lv_iload_n hx hb dX5_isAhead_10 rfl (lv_at hl 2 rfl) ?_
  refine z_iald hx hb hK hP 5 0 rfl rfl x2' e_x2 (by omega) rfl dX5_isAhead_11 ?_
  refine lv_icmp_ge (tgt := 39) hx hb dX5_isAhead_12 (by decide) (fun c_1 => ?_) (fun c_1 => ?_)
  · refine lv_iconst (v := 0) hx hb dX5_isAhead_39 (by decide) ?_
    exact W.zret (v := 0) hx hb hr (by decide) (fun t ht hW => ⟨⟨0, (), rfl, (by first | with_reducible rfl | (simp only [G_ahead, if_pos c_1]; done) | (simp +decide only [G_ahead, if_pos c_1]; done) | (simp [G_ahead, c_1]; done) | (simp +decide [G_ahead, c_1]; done)), trivial⟩, hS.F ht⟩) hS.2.2 dX5_isAhead_40
  · refine lv_aload_n hx hb dX5_isAhead_15 rfl (lv_at hl 0 rfl) ?_
    refine z_get (ci := 5) (C := RX5) (T := TX5) (N := 26) hx hb hts b_X5_isAhead_wsX50 hown hK hP 0 rfl rfl 9 (by decide) (hts _ k_X5_isAhead_2) rfl (.ref (a 36)) rfl dX5_isAhead_16 ?_
    refine lv_iload_n hx hb dX5_isAhead_19 rfl (lv_at hl 1 rfl) ?_
    refine z_iald hx hb hK hP 6 0 rfl rfl x1' e_x1 (by omega) rfl dX5_isAhead_20 ?_
    refine lv_iconst (v := 4) hx hb dX5_isAhead_21 (by decide) ?_
    refine lv_icmp_eq (tgt := 39) hx hb dX5_isAhead_22 (by decide) (fun c_2 => ?_) (fun c_2 => ?_)
    · refine lv_iconst (v := 0) hx hb dX5_isAhead_39 (by decide) ?_
      exact W.zret (v := 0) hx hb hr (by decide) (fun t ht hW => ⟨⟨0, (), rfl, (by first | with_reducible rfl | (simp only [G_ahead, if_neg c_1, if_pos c_2]; done) | (simp +decide only [G_ahead, if_neg c_1, if_pos c_2]; done) | (simp [G_ahead, c_1, c_2]; done) | (simp +decide [G_ahead, c_1, c_2]; done)), trivial⟩, hS.F ht⟩) hS.2.2 dX5_isAhead_40
    · refine lv_aload_n hx hb dX5_isAhead_25 rfl (lv_at hl 0 rfl) ?_
      refine z_get (ci := 5) (C := RX5) (T := TX5) (N := 26) hx hb hts b_X5_isAhead_wsX50 hown hK hP 0 rfl rfl 9 (by decide) (hts _ k_X5_isAhead_2) rfl (.ref (a 36)) rfl dX5_isAhead_26 ?_
      refine lv_iload_n hx hb dX5_isAhead_29 rfl (lv_at hl 2 rfl) ?_
      refine z_iald hx hb hK hP 6 0 rfl rfl x2' e_x2 (by omega) rfl dX5_isAhead_30 ?_
      refine lv_iconst (v := 4) hx hb dX5_isAhead_31 (by decide) ?_
      refine lv_icmp_eq (tgt := 39) hx hb dX5_isAhead_32 (by decide) (fun c_3 => ?_) (fun c_3 => ?_)
      · refine lv_iconst (v := 0) hx hb dX5_isAhead_39 (by decide) ?_
        exact W.zret (v := 0) hx hb hr (by decide) (fun t ht hW => ⟨⟨0, (), rfl, (by first | with_reducible rfl | (simp only [G_ahead, if_neg c_1, if_neg c_2, if_pos c_3]; done) | (simp +decide only [G_ahead, if_neg c_1, if_neg c_2, if_pos c_3]; done) | (simp [G_ahead, c_1, c_2, c_3]; done) | (simp +decide [G_ahead, c_1, c_2, c_3]; done)), trivial⟩, hS.F ht⟩) hS.2.2 dX5_isAhead_40
      · refine lv_iconst (v := 1) hx hb dX5_isAhead_35 (by decide) ?_
        refine lv_goto (tgt := 40) hx hb dX5_isAhead_36 (by decide) ?_
        exact W.zret (v := 1) hx hb hr (by decide) (fun t ht hW => ⟨⟨1, (), rfl, (by first | with_reducible rfl | (simp only [G_ahead, if_neg c_1, if_neg c_2, if_neg c_3]; done) | (simp +decide only [G_ahead, if_neg c_1, if_neg c_2, if_neg c_3]; done) | (simp [G_ahead, c_1, c_2, c_3]; done) | (simp +decide [G_ahead, c_1, c_2, c_3]; done)), trivial⟩, hS.F ht⟩) hS.2.2 dX5_isAhead_40
theorem k_X5_needsOf_1 : (Cond.fieldLink RX5 79 "OrbitregisterModel" "filings" "I") ∈ wsX5_needsOf := List.mem_of_getElem? (i := 1) rfl
theorem b_X5_needsOf_wsX50 : ∀ w ∈ wsX50, w ∈ wsX5_needsOf := fun _ h => List.mem_cons_of_mem _ (List.mem_append_right _ h)
set_option maxHeartbeats 4000000 in
set_option maxRecDepth 100000 in
theorem c_X5_needsOf (l : Launch) (D : va_G) (cI cJ cZ : ClassId) (a : Nat → Nat) (sz : Nat) (th : Int32) (td : Int32) (nd : Int32) (n : Nat) (ld : A32) (sl : A32) (bd : A32) (pw : A32) (dt : A32) (st : A32) (uc : A32) (sv : A32) (tl : A32) (so : A32) (ag : A32) (ns : Nat) (ss : A32) (rg : A32) (hw : A32) (ax : A32) (fu : A32) (si : A32) (au : A32) (px : A32) (pg : A32) (py : A64) (x1 : Int32) (x1' : Nat) (e_x1 : x1 = nI x1') (h_x1 : x1' < 40) (hn : n ≤ 40) : Met l yX5_needsOf wsX5_needsOf ({ frames := 3, cells := 0, slots := 0, locals := 70 }) (va_Pc [.ref (a 30), .int x1] (ZP D (zt cI cJ cZ) (wMo cI cJ cZ a th td nd n ld sl bd pw dt st uc sv tl so ag ns ss rg hw ax fu si au px pg py) sz zT)) (va_Qi (fun (r : Int32) (_ : Unit) => r = G_needs bd st sl pw dt ag x1' n) (fun _ _ => True) (va_A [] sz)) 0 0 (va_A [] sz) := by
  refine Met.ofW (cc := cX5_needsOf) (maxL := 4) (ret := (some .int)) (by decide) rfl ?_
  intro p e s m args below meth c s₁ B hml hv
  obtain ⟨rfl, hsz, hP, hK, hD0, hE⟩ := hv
  have hx := B.exec
  have hb := B.bytes
  have hr := B.returns
  have hts := atoms_spec (ws := wsX5_needsOf) B.pre
  have hown : s.vm.findClass RX5 = some m.cls := findClass_of_methodNamed B.named
  have hlocks := B.notSynchronized
  subst hsz
  have hD := hD0
  generalize hAe : va_A [] s.heap.size = A at ⊢
  have hA : ∀ q : Nat, s.heap.size ≤ q → A q := fun q h => by rw [← hAe]; exact Or.inr h
  have hS : va_S A s.heap s.heap [] := va_S.rf
  have hl := lv_entry ([.ref (a 30), .int x1]) (n := 4) (Nat.le_of_ble_eq_true rfl)
  rw [lg_entry_eq]
  generalize (lg_sl ([.ref (a 30), .int x1]) ++ List.replicate (4 - (lg_sl ([.ref (a 30), .int x1])).length) Slot.unset).toArray = ls at hl ⊢
  have hl : lv_has ls 4 [(0, .ref (a 30)), (1, .int x1)] := hl
  have hP : va_P D vwCl (wMo cI cJ cZ a th td nd n ld sl bd pw dt st uc sv tl so ag ns ss rg hw ax fu si au px pg py) s.heap := hP
  refine lv_iconst (v := 0) hx hb dX5_needsOf_0 (by decide) ?_
  refine lv_istore_n (lv' := [(2, .int 0), (0, .ref (a 30)), (1, .int x1)]) hx hb dX5_needsOf_1 rfl hl (by decide) rfl (fun ls hl => ?_)
  refine lv_iconst (v := 0) hx hb dX5_needsOf_2 (by decide) ?_
  refine lv_istore_n (lv' := [(3, .int 0), (2, .int 0), (0, .ref (a 30)), (1, .int x1)]) hx hb dX5_needsOf_3 rfl hl (by decide) rfl (fun ls hl => ?_)
  have e_l2 : (G_needs bd st sl pw dt ag x1' 0) = 0 := by first | rfl | exact nI_0
  have e_l3 : (nI 0) = 0 := by first | rfl | exact nI_0
  have hl : lv_has ls 4 [(2, .int (G_needs bd st sl pw dt ag x1' 0)), (3, .int (nI 0)), (0, .ref (a 30)), (1, .int x1)] := by rw [e_l2, e_l3]; exact lv_sub hl [1, 0, 2, 3] rfl
  refine z_loop (D := D) (A := A) (H0 := s.heap) (N := n) (Wf := fun i => (wMo cI cJ cZ a th td nd n ld sl bd pw dt st uc sv tl so ag ns ss rg hw ax fu si au px pg py)) (lvf := fun i => [(2, .int (G_needs bd st sl pw dt ag x1' i)), (3, .int (nI i)), (0, .ref (a 30)), (1, .int x1)]) (Inv := fun i => True) 0 (by omega) trivial hP hS hl (fun i hi hinv H locs ls hP hS hl ih => ?_)
  have hP : va_P D vwCl (wMo cI cJ cZ a th td nd n ld sl bd pw dt st uc sv tl so ag ns ss rg hw ax fu si au px pg py) H := hP
  have hl : lv_has ls 4 [(2, .int (G_needs bd st sl pw dt ag x1' i)), (3, .int (nI i)), (0, .ref (a 30)), (1, .int x1)] := hl
  have hinv : True := hinv
  refine lv_iload_n hx hb dX5_needsOf_4 rfl (lv_at hl 1 rfl) ?_
  refine lv_aload_n hx hb dX5_needsOf_5 rfl (lv_at hl 2 rfl) ?_
  refine z_get (ci := 5) (C := RX5) (T := TX5) (N := 26) hx hb hts b_X5_needsOf_wsX50 hown hK hP 0 rfl rfl 3 (by decide) (hts _ k_X5_needsOf_1) rfl (.int (nI n)) rfl dX5_needsOf_6 ?_
  refine lv_icmp_ge (tgt := 50) hx hb dX5_needsOf_9 (by decide) (fun c_1 => ?_) (fun c_1 => ?_)
  · have f_1 := z_leN (a := n) (b := i) c_1 rfl rfl (by omega) (by omega)
    have f_1n := Nat.not_lt.mpr f_1
    obtain rfl : n = i := by omega
    refine lv_iload_n hx hb dX5_needsOf_50 rfl (lv_at hl 0 rfl) ?_
    exact W.iret (v := G_needs bd st sl pw dt ag x1' n) hx hb hr (fun t ht hW => ⟨⟨G_needs bd st sl pw dt ag x1' n, (), rfl, rfl, trivial⟩, hS.F ht⟩) hS.2.2 dX5_needsOf_51
  · have f_1 := z_nleN (a := n) (b := i) c_1 rfl rfl (by omega) (by omega)
    have f_1n := Nat.not_le.mpr f_1
    refine lv_iload_n hx hb dX5_needsOf_12 rfl (lv_at hl 0 rfl) ?_
    refine lv_aload_n hx hb dX5_needsOf_13 rfl (lv_at hl 2 rfl) ?_
    refine lv_iload_n hx hb dX5_needsOf_14 rfl (lv_at hl 1 rfl) ?_
    refine lv_iload_n hx hb dX5_needsOf_15 rfl (lv_at hl 3 rfl) ?_
    refine z_ri (va_runV (As := [.int (nI i), .int x1]) (rest := [.int (G_needs bd st sl pw dt ag x1' i)]) ⟨hx, hb, hml, hown, hts⟩ (c_X5_isAhead l D cI cJ cZ a H.size th td nd n ld sl bd pw dt st uc sv tl so ag ns ss rg hw ax fu si au px pg py (nI i) i rfl (by omega) x1 x1' e_x1 (by omega)) (cwV 2 hts gX5_needsOf_X5_isAhead rfl rfl rfl (by decide +kernel) ⟨Nat.le_of_ble_eq_true rfl, Nat.le_of_ble_eq_true rfl⟩) (z_pv hK hP hD (q0 := 0) (ci := 5) rfl rfl zT_b zT_m) rfl rfl hl.1 rfl (lv_room (Nat.le_of_ble_eq_true rfl)) dX5_needsOf_16 ⟨Nat.le_of_ble_eq_true rfl, Nat.le_of_ble_eq_true rfl⟩) hP hS hA (fun r_2 _ H locs hr_2 hP hS => ?_)
    subst hr_2
    refine lv_if_eq (tgt := 41) hx hb dX5_needsOf_19 (by decide) (fun c_3 => ?_) (fun c_3 => ?_)
    · refine lv_iconst (v := 0) hx hb dX5_needsOf_41 (by decide) ?_
      refine lv_iadd hx hb dX5_needsOf_42 ?_
      refine lv_istore_n (lv' := [(2, .int ((G_needs bd st sl pw dt ag x1' i) + 0)), (3, .int (nI i)), (0, .ref (a 30)), (1, .int x1)]) hx hb dX5_needsOf_43 rfl hl (by decide) rfl (fun ls hl => ?_)
      refine lv_iinc (v := nI (i + 1)) (lv' := [(3, .int (nI (i + 1))), (2, .int ((G_needs bd st sl pw dt ag x1' i) + 0)), (0, .ref (a 30)), (1, .int x1)]) hx hb dX5_needsOf_44 hl (k := 1) rfl (z_inc1 i) (by decide) rfl (fun ls hl => ?_)
      refine lv_goto (tgt := 4) hx hb dX5_needsOf_47 (by decide) ?_
      have e_l2 : (G_needs bd st sl pw dt ag x1' (i + 1)) = (G_needs bd st sl pw dt ag x1' i) + 0 := by first | with_reducible rfl | (simp only [G_needs, if_neg c_1, if_pos f_1, if_neg f_1n, if_pos c_3]; done) | (simp +decide only [G_needs, f_1, if_neg c_1, if_pos f_1, if_neg f_1n, if_pos c_3]; done) | (simp [G_needs, c_1, f_1, f_1n, c_3, f_1]; done) | (simp +decide [G_needs, c_1, f_1, f_1n, c_3, f_1]; done)
      have hl : lv_has ls 4 [(2, .int (G_needs bd st sl pw dt ag x1' (i + 1))), (3, .int (nI (i + 1))), (0, .ref (a 30)), (1, .int x1)] := by rw [e_l2]; exact lv_sub hl [1, 0, 2, 3] rfl
      exact ih H locs ls (by omega) trivial hP hS hl
    · refine lv_aload_n hx hb dX5_needsOf_22 rfl (lv_at hl 2 rfl) ?_
      refine lv_iload_n hx hb dX5_needsOf_23 rfl (lv_at hl 3 rfl) ?_
      refine lv_iload_n hx hb dX5_needsOf_24 rfl (lv_at hl 1 rfl) ?_
      refine z_ri (va_runV (As := [.int x1, .int (nI i)]) (rest := [.int (G_needs bd st sl pw dt ag x1' i)]) ⟨hx, hb, hml, hown, hts⟩ (c_X5_harmOf l D cI cJ cZ a H.size th td nd n ld sl bd pw dt st uc sv tl so ag ns ss rg hw ax fu si au px pg py x1 x1' e_x1 (by omega) (nI i) i rfl (by omega)) (cwV 2 hts gX5_needsOf_X5_harmOf rfl rfl rfl (by decide +kernel) ⟨Nat.le_of_ble_eq_true rfl, Nat.le_of_ble_eq_true rfl⟩) (z_pv hK hP hD (q0 := 0) (ci := 5) rfl rfl zT_b zT_m) rfl rfl hl.1 rfl (lv_room (Nat.le_of_ble_eq_true rfl)) dX5_needsOf_25 ⟨Nat.le_of_ble_eq_true rfl, Nat.le_of_ble_eq_true rfl⟩) hP hS hA (fun r_4 _ H locs hr_4 hP hS => ?_)
      subst hr_4
      refine lv_aload_n hx hb dX5_needsOf_28 rfl (lv_at hl 2 rfl) ?_
      refine lv_iload_n hx hb dX5_needsOf_29 rfl (lv_at hl 3 rfl) ?_
      refine lv_iload_n hx hb dX5_needsOf_30 rfl (lv_at hl 1 rfl) ?_
      refine z_ri (va_runV (As := [.int x1, .int (nI i)]) (rest := [.int (G_harmOf bd st sl pw x1' i), .int (G_needs bd st sl pw dt ag x1' i)]) ⟨hx, hb, hml, hown, hts⟩ (c_X5_freely l D cI cJ cZ a H.size th td nd n ld sl bd pw dt st uc sv tl so ag ns ss rg hw ax fu si au px pg py x1 x1' e_x1 (by omega) (nI i) i rfl (by omega)) (cwV 2 hts gX5_needsOf_X5_freely rfl rfl rfl (by decide +kernel) ⟨Nat.le_of_ble_eq_true rfl, Nat.le_of_ble_eq_true rfl⟩) (z_pv hK hP hD (q0 := 0) (ci := 5) rfl rfl zT_b zT_m) rfl rfl hl.1 rfl (lv_room (Nat.le_of_ble_eq_true rfl)) dX5_needsOf_31 ⟨Nat.le_of_ble_eq_true rfl, Nat.le_of_ble_eq_true rfl⟩) hP hS hA (fun r_5 _ H locs hr_5 hP hS => ?_)
      subst hr_5
      refine lv_icmp_le (tgt := 41) hx hb dX5_needsOf_34 (by decide) (fun c_6 => ?_) (fun c_6 => ?_)
      · refine lv_iconst (v := 0) hx hb dX5_needsOf_41 (by decide) ?_
        refine lv_iadd hx hb dX5_needsOf_42 ?_
        refine lv_istore_n (lv' := [(2, .int ((G_needs bd st sl pw dt ag x1' i) + 0)), (3, .int (nI i)), (0, .ref (a 30)), (1, .int x1)]) hx hb dX5_needsOf_43 rfl hl (by decide) rfl (fun ls hl => ?_)
        refine lv_iinc (v := nI (i + 1)) (lv' := [(3, .int (nI (i + 1))), (2, .int ((G_needs bd st sl pw dt ag x1' i) + 0)), (0, .ref (a 30)), (1, .int x1)]) hx hb dX5_needsOf_44 hl (k := 1) rfl (z_inc1 i) (by decide) rfl (fun ls hl => ?_)
        refine lv_goto (tgt := 4) hx hb dX5_needsOf_47 (by decide) ?_
        have e_l2 : (G_needs bd st sl pw dt ag x1' (i + 1)) = (G_needs bd st sl pw dt ag x1' i) + 0 := by first | with_reducible rfl | (simp only [G_needs, if_neg c_1, if_pos f_1, if_neg f_1n, if_neg c_3, if_pos c_6]; done) | (simp +decide only [G_needs, f_1, if_neg c_1, if_pos f_1, if_neg f_1n, if_neg c_3, if_pos c_6]; done) | (simp [G_needs, c_1, f_1, f_1n, c_3, c_6, f_1]; done) | (simp +decide [G_needs, c_1, f_1, f_1n, c_3, c_6, f_1]; done)
        have hl : lv_has ls 4 [(2, .int (G_needs bd st sl pw dt ag x1' (i + 1))), (3, .int (nI (i + 1))), (0, .ref (a 30)), (1, .int x1)] := by rw [e_l2]; exact lv_sub hl [1, 0, 2, 3] rfl
        exact ih H locs ls (by omega) trivial hP hS hl
      · refine lv_iconst (v := 1) hx hb dX5_needsOf_37 (by decide) ?_
        refine lv_goto (tgt := 42) hx hb dX5_needsOf_38 (by decide) ?_
        refine lv_iadd hx hb dX5_needsOf_42 ?_
        refine lv_istore_n (lv' := [(2, .int ((G_needs bd st sl pw dt ag x1' i) + 1)), (3, .int (nI i)), (0, .ref (a 30)), (1, .int x1)]) hx hb dX5_needsOf_43 rfl hl (by decide) rfl (fun ls hl => ?_)
        refine lv_iinc (v := nI (i + 1)) (lv' := [(3, .int (nI (i + 1))), (2, .int ((G_needs bd st sl pw dt ag x1' i) + 1)), (0, .ref (a 30)), (1, .int x1)]) hx hb dX5_needsOf_44 hl (k := 1) rfl (z_inc1 i) (by decide) rfl (fun ls hl => ?_)
        refine lv_goto (tgt := 4) hx hb dX5_needsOf_47 (by decide) ?_
        have e_l2 : (G_needs bd st sl pw dt ag x1' (i + 1)) = (G_needs bd st sl pw dt ag x1' i) + 1 := by first | with_reducible rfl | (simp only [G_needs, if_neg c_1, if_pos f_1, if_neg f_1n, if_neg c_3, if_neg c_6]; done) | (simp +decide only [G_needs, f_1, if_neg c_1, if_pos f_1, if_neg f_1n, if_neg c_3, if_neg c_6]; done) | (simp [G_needs, c_1, f_1, f_1n, c_3, c_6, f_1]; done) | (simp +decide [G_needs, c_1, f_1, f_1n, c_3, c_6, f_1]; done)
        have hl : lv_has ls 4 [(2, .int (G_needs bd st sl pw dt ag x1' (i + 1))), (3, .int (nI (i + 1))), (0, .ref (a 30)), (1, .int x1)] := by rw [e_l2]; exact lv_sub hl [1, 0, 2, 3] rfl
        exact ih H locs ls (by omega) trivial hP hS hl
theorem k_X5_bearsOf_1 : (Cond.fieldLink RX5 79 "OrbitregisterModel" "filings" "I") ∈ wsX5_bearsOf := List.mem_of_getElem? (i := 1) rfl
theorem b_X5_bearsOf_wsX50 : ∀ w ∈ wsX50, w ∈ wsX5_bearsOf := fun _ h => List.mem_cons_of_mem _ (List.mem_append_right _ h)
theorem k_X5_bearsOf_2 : (Cond.fieldLink RX5 25 "OrbitregisterModel" "state" "[I") ∈ wsX5_bearsOf := List.mem_of_getElem? (i := 2) rfl
set_option maxHeartbeats 4000000 in
set_option maxRecDepth 100000 in
theorem c_X5_bearsOf (l : Launch) (D : va_G) (cI cJ cZ : ClassId) (a : Nat → Nat) (sz : Nat) (th : Int32) (td : Int32) (nd : Int32) (n : Nat) (ld : A32) (sl : A32) (bd : A32) (pw : A32) (dt : A32) (st : A32) (uc : A32) (sv : A32) (tl : A32) (so : A32) (ag : A32) (ns : Nat) (ss : A32) (rg : A32) (hw : A32) (ax : A32) (fu : A32) (si : A32) (au : A32) (px : A32) (pg : A32) (py : A64) (x1 : Int32) (x1' : Nat) (e_x1 : x1 = nI x1') (h_x1 : x1' < 40) (hn : n ≤ 40) : Met l yX5_bearsOf wsX5_bearsOf ({ frames := 3, cells := 0, slots := 0, locals := 70 }) (va_Pc [.ref (a 30), .int x1] (ZP D (zt cI cJ cZ) (wMo cI cJ cZ a th td nd n ld sl bd pw dt st uc sv tl so ag ns ss rg hw ax fu si au px pg py) sz zT)) (va_Qi (fun (r : Int32) (_ : Unit) => r = G_bears bd st sl pw dt x1' n) (fun _ _ => True) (va_A [] sz)) 0 0 (va_A [] sz) := by
  refine Met.ofW (cc := cX5_bearsOf) (maxL := 4) (ret := (some .int)) (by decide) rfl ?_
  intro p e s m args below meth c s₁ B hml hv
  obtain ⟨rfl, hsz, hP, hK, hD0, hE⟩ := hv
  have hx := B.exec
  have hb := B.bytes
  have hr := B.returns
  have hts := atoms_spec (ws := wsX5_bearsOf) B.pre
  have hown : s.vm.findClass RX5 = some m.cls := findClass_of_methodNamed B.named
  have hlocks := B.notSynchronized
  subst hsz
  have hD := hD0
  generalize hAe : va_A [] s.heap.size = A at ⊢
  have hA : ∀ q : Nat, s.heap.size ≤ q → A q := fun q h => by rw [← hAe]; exact Or.inr h
  have hS : va_S A s.heap s.heap [] := va_S.rf
  have hl := lv_entry ([.ref (a 30), .int x1]) (n := 4) (Nat.le_of_ble_eq_true rfl)
  rw [lg_entry_eq]
  generalize (lg_sl ([.ref (a 30), .int x1]) ++ List.replicate (4 - (lg_sl ([.ref (a 30), .int x1])).length) Slot.unset).toArray = ls at hl ⊢
  have hl : lv_has ls 4 [(0, .ref (a 30)), (1, .int x1)] := hl
  have hP : va_P D vwCl (wMo cI cJ cZ a th td nd n ld sl bd pw dt st uc sv tl so ag ns ss rg hw ax fu si au px pg py) s.heap := hP
  refine lv_iconst (v := 0) hx hb dX5_bearsOf_0 (by decide) ?_
  refine lv_istore_n (lv' := [(2, .int 0), (0, .ref (a 30)), (1, .int x1)]) hx hb dX5_bearsOf_1 rfl hl (by decide) rfl (fun ls hl => ?_)
  refine lv_iconst (v := 0) hx hb dX5_bearsOf_2 (by decide) ?_
  refine lv_istore_n (lv' := [(3, .int 0), (2, .int 0), (0, .ref (a 30)), (1, .int x1)]) hx hb dX5_bearsOf_3 rfl hl (by decide) rfl (fun ls hl => ?_)
  have e_l2 : (G_bears bd st sl pw dt x1' 0) = 0 := by first | rfl | exact nI_0
  have e_l3 : (nI 0) = 0 := by first | rfl | exact nI_0
  have hl : lv_has ls 4 [(2, .int (G_bears bd st sl pw dt x1' 0)), (3, .int (nI 0)), (0, .ref (a 30)), (1, .int x1)] := by rw [e_l2, e_l3]; exact lv_sub hl [1, 0, 2, 3] rfl
  refine z_loop (D := D) (A := A) (H0 := s.heap) (N := n) (Wf := fun i => (wMo cI cJ cZ a th td nd n ld sl bd pw dt st uc sv tl so ag ns ss rg hw ax fu si au px pg py)) (lvf := fun i => [(2, .int (G_bears bd st sl pw dt x1' i)), (3, .int (nI i)), (0, .ref (a 30)), (1, .int x1)]) (Inv := fun i => True) 0 (by omega) trivial hP hS hl (fun i hi hinv H locs ls hP hS hl ih => ?_)
  have hP : va_P D vwCl (wMo cI cJ cZ a th td nd n ld sl bd pw dt st uc sv tl so ag ns ss rg hw ax fu si au px pg py) H := hP
  have hl : lv_has ls 4 [(2, .int (G_bears bd st sl pw dt x1' i)), (3, .int (nI i)), (0, .ref (a 30)), (1, .int x1)] := hl
  have hinv : True := hinv
  refine lv_iload_n hx hb dX5_bearsOf_4 rfl (lv_at hl 1 rfl) ?_
  refine lv_aload_n hx hb dX5_bearsOf_5 rfl (lv_at hl 2 rfl) ?_
  refine z_get (ci := 5) (C := RX5) (T := TX5) (N := 26) hx hb hts b_X5_bearsOf_wsX50 hown hK hP 0 rfl rfl 3 (by decide) (hts _ k_X5_bearsOf_1) rfl (.int (nI n)) rfl dX5_bearsOf_6 ?_
  refine lv_icmp_ge (tgt := 50) hx hb dX5_bearsOf_9 (by decide) (fun c_1 => ?_) (fun c_1 => ?_)
  · have f_1 := z_leN (a := n) (b := i) c_1 rfl rfl (by omega) (by omega)
    have f_1n := Nat.not_lt.mpr f_1
    obtain rfl : n = i := by omega
    refine lv_iload_n hx hb dX5_bearsOf_50 rfl (lv_at hl 0 rfl) ?_
    exact W.iret (v := G_bears bd st sl pw dt x1' n) hx hb hr (fun t ht hW => ⟨⟨G_bears bd st sl pw dt x1' n, (), rfl, rfl, trivial⟩, hS.F ht⟩) hS.2.2 dX5_bearsOf_51
  · have f_1 := z_nleN (a := n) (b := i) c_1 rfl rfl (by omega) (by omega)
    have f_1n := Nat.not_le.mpr f_1
    refine lv_iload_n hx hb dX5_bearsOf_12 rfl (lv_at hl 0 rfl) ?_
    refine lv_aload_n hx hb dX5_bearsOf_13 rfl (lv_at hl 2 rfl) ?_
    refine lv_iload_n hx hb dX5_bearsOf_14 rfl (lv_at hl 3 rfl) ?_
    refine lv_iload_n hx hb dX5_bearsOf_15 rfl (lv_at hl 1 rfl) ?_
    refine z_ri (va_runV (As := [.int x1, .int (nI i)]) (rest := [.int (G_bears bd st sl pw dt x1' i)]) ⟨hx, hb, hml, hown, hts⟩ (c_X5_isAhead l D cI cJ cZ a H.size th td nd n ld sl bd pw dt st uc sv tl so ag ns ss rg hw ax fu si au px pg py x1 x1' e_x1 (by omega) (nI i) i rfl (by omega)) (cwV 2 hts gX5_bearsOf_X5_isAhead rfl rfl rfl (by decide +kernel) ⟨Nat.le_of_ble_eq_true rfl, Nat.le_of_ble_eq_true rfl⟩) (z_pv hK hP hD (q0 := 0) (ci := 5) rfl rfl zT_b zT_m) rfl rfl hl.1 rfl (lv_room (Nat.le_of_ble_eq_true rfl)) dX5_bearsOf_16 ⟨Nat.le_of_ble_eq_true rfl, Nat.le_of_ble_eq_true rfl⟩) hP hS hA (fun r_2 _ H locs hr_2 hP hS => ?_)
    subst hr_2
    refine lv_if_eq (tgt := 41) hx hb dX5_bearsOf_19 (by decide) (fun c_3 => ?_) (fun c_3 => ?_)
    · refine lv_iconst (v := 0) hx hb dX5_bearsOf_41 (by decide) ?_
      refine lv_iadd hx hb dX5_bearsOf_42 ?_
      refine lv_istore_n (lv' := [(2, .int ((G_bears bd st sl pw dt x1' i) + 0)), (3, .int (nI i)), (0, .ref (a 30)), (1, .int x1)]) hx hb dX5_bearsOf_43 rfl hl (by decide) rfl (fun ls hl => ?_)
      refine lv_iinc (v := nI (i + 1)) (lv' := [(3, .int (nI (i + 1))), (2, .int ((G_bears bd st sl pw dt x1' i) + 0)), (0, .ref (a 30)), (1, .int x1)]) hx hb dX5_bearsOf_44 hl (k := 1) rfl (z_inc1 i) (by decide) rfl (fun ls hl => ?_)
      refine lv_goto (tgt := 4) hx hb dX5_bearsOf_47 (by decide) ?_
      have e_l2 : (G_bears bd st sl pw dt x1' (i + 1)) = (G_bears bd st sl pw dt x1' i) + 0 := by first | with_reducible rfl | (simp only [G_bears, if_neg c_1, if_pos f_1, if_neg f_1n, if_pos c_3]; done) | (simp +decide only [G_bears, f_1, if_neg c_1, if_pos f_1, if_neg f_1n, if_pos c_3]; done) | (simp [G_bears, c_1, f_1, f_1n, c_3, f_1]; done) | (simp +decide [G_bears, c_1, f_1, f_1n, c_3, f_1]; done)
      have hl : lv_has ls 4 [(2, .int (G_bears bd st sl pw dt x1' (i + 1))), (3, .int (nI (i + 1))), (0, .ref (a 30)), (1, .int x1)] := by rw [e_l2]; exact lv_sub hl [1, 0, 2, 3] rfl
      exact ih H locs ls (by omega) trivial hP hS hl
    · refine lv_aload_n hx hb dX5_bearsOf_22 rfl (lv_at hl 2 rfl) ?_
      refine z_get (ci := 5) (C := RX5) (T := TX5) (N := 26) hx hb hts b_X5_bearsOf_wsX50 hown hK hP 0 rfl rfl 9 (by decide) (hts _ k_X5_bearsOf_2) rfl (.ref (a 36)) rfl dX5_bearsOf_23 ?_
      refine lv_iload_n hx hb dX5_bearsOf_26 rfl (lv_at hl 1 rfl) ?_
      refine z_iald hx hb hK hP 6 0 rfl rfl i rfl (by omega) rfl dX5_bearsOf_27 ?_
      refine lv_iconst (v := 2) hx hb dX5_bearsOf_28 (by decide) ?_
      refine lv_icmp_ne (tgt := 41) hx hb dX5_bearsOf_29 (by decide) (fun c_4 => ?_) (fun c_4 => ?_)
      · refine lv_iconst (v := 0) hx hb dX5_bearsOf_41 (by decide) ?_
        refine lv_iadd hx hb dX5_bearsOf_42 ?_
        refine lv_istore_n (lv' := [(2, .int ((G_bears bd st sl pw dt x1' i) + 0)), (3, .int (nI i)), (0, .ref (a 30)), (1, .int x1)]) hx hb dX5_bearsOf_43 rfl hl (by decide) rfl (fun ls hl => ?_)
        refine lv_iinc (v := nI (i + 1)) (lv' := [(3, .int (nI (i + 1))), (2, .int ((G_bears bd st sl pw dt x1' i) + 0)), (0, .ref (a 30)), (1, .int x1)]) hx hb dX5_bearsOf_44 hl (k := 1) rfl (z_inc1 i) (by decide) rfl (fun ls hl => ?_)
        refine lv_goto (tgt := 4) hx hb dX5_bearsOf_47 (by decide) ?_
        have e_l2 : (G_bears bd st sl pw dt x1' (i + 1)) = (G_bears bd st sl pw dt x1' i) + 0 := by first | with_reducible rfl | (simp only [G_bears, if_neg c_1, if_pos f_1, if_neg f_1n, if_neg c_3, if_neg c_4]; done) | (simp +decide only [G_bears, f_1, if_neg c_1, if_pos f_1, if_neg f_1n, if_neg c_3, if_neg c_4]; done) | (simp [G_bears, c_1, f_1, f_1n, c_3, c_4, f_1]; done) | (simp +decide [G_bears, c_1, f_1, f_1n, c_3, c_4, f_1]; done)
        have hl : lv_has ls 4 [(2, .int (G_bears bd st sl pw dt x1' (i + 1))), (3, .int (nI (i + 1))), (0, .ref (a 30)), (1, .int x1)] := by rw [e_l2]; exact lv_sub hl [1, 0, 2, 3] rfl
        exact ih H locs ls (by omega) trivial hP hS hl
      · refine lv_aload_n hx hb dX5_bearsOf_32 rfl (lv_at hl 2 rfl) ?_
        refine lv_iload_n hx hb dX5_bearsOf_33 rfl (lv_at hl 1 rfl) ?_
        refine lv_iload_n hx hb dX5_bearsOf_34 rfl (lv_at hl 3 rfl) ?_
        refine z_ri (va_runV (As := [.int (nI i), .int x1]) (rest := [.int (G_bears bd st sl pw dt x1' i)]) ⟨hx, hb, hml, hown, hts⟩ (c_X5_harmOf l D cI cJ cZ a H.size th td nd n ld sl bd pw dt st uc sv tl so ag ns ss rg hw ax fu si au px pg py (nI i) i rfl (by omega) x1 x1' e_x1 (by omega)) (cwV 2 hts gX5_bearsOf_X5_harmOf rfl rfl rfl (by decide +kernel) ⟨Nat.le_of_ble_eq_true rfl, Nat.le_of_ble_eq_true rfl⟩) (z_pv hK hP hD (q0 := 0) (ci := 5) rfl rfl zT_b zT_m) rfl rfl hl.1 rfl (lv_room (Nat.le_of_ble_eq_true rfl)) dX5_bearsOf_35 ⟨Nat.le_of_ble_eq_true rfl, Nat.le_of_ble_eq_true rfl⟩) hP hS hA (fun r_5 _ H locs hr_5 hP hS => ?_)
        subst hr_5
        refine lv_goto (tgt := 42) hx hb dX5_bearsOf_38 (by decide) ?_
        refine lv_iadd hx hb dX5_bearsOf_42 ?_
        refine lv_istore_n (lv' := [(2, .int ((G_bears bd st sl pw dt x1' i) + (G_harmOf bd st sl pw i x1'))), (3, .int (nI i)), (0, .ref (a 30)), (1, .int x1)]) hx hb dX5_bearsOf_43 rfl hl (by decide) rfl (fun ls hl => ?_)
        refine lv_iinc (v := nI (i + 1)) (lv' := [(3, .int (nI (i + 1))), (2, .int ((G_bears bd st sl pw dt x1' i) + (G_harmOf bd st sl pw i x1'))), (0, .ref (a 30)), (1, .int x1)]) hx hb dX5_bearsOf_44 hl (k := 1) rfl (z_inc1 i) (by decide) rfl (fun ls hl => ?_)
        refine lv_goto (tgt := 4) hx hb dX5_bearsOf_47 (by decide) ?_
        have e_l2 : (G_bears bd st sl pw dt x1' (i + 1)) = (G_bears bd st sl pw dt x1' i) + (G_harmOf bd st sl pw i x1') := by first | with_reducible rfl | (simp only [G_bears, if_neg c_1, if_pos f_1, if_neg f_1n, if_neg c_3, if_pos c_4]; done) | (simp +decide only [G_bears, f_1, if_neg c_1, if_pos f_1, if_neg f_1n, if_neg c_3, if_pos c_4]; done) | (simp [G_bears, c_1, f_1, f_1n, c_3, c_4, f_1]; done) | (simp +decide [G_bears, c_1, f_1, f_1n, c_3, c_4, f_1]; done)
        have hl : lv_has ls 4 [(2, .int (G_bears bd st sl pw dt x1' (i + 1))), (3, .int (nI (i + 1))), (0, .ref (a 30)), (1, .int x1)] := by rw [e_l2]; exact lv_sub hl [1, 0, 2, 3] rfl
        exact ih H locs ls (by omega) trivial hP hS hl
theorem k_X5_suspend_1 : (Cond.fieldLink RX5 25 "OrbitregisterModel" "state" "[I") ∈ wsX5_suspend := List.mem_of_getElem? (i := 1) rfl
theorem b_X5_suspend_wsX50 : ∀ w ∈ wsX50, w ∈ wsX5_suspend := fun _ h => List.mem_cons_of_mem _ (List.mem_append_right _ h)
theorem k_X5_suspend_2 : (Cond.fieldLink RX5 32 "OrbitregisterModel" "servedBy" "[I") ∈ wsX5_suspend := List.mem_of_getElem? (i := 2) rfl
theorem k_X5_suspend_3 : (Cond.fieldLink RX5 38 "OrbitregisterModel" "suspended" "[I") ∈ wsX5_suspend := List.mem_of_getElem? (i := 3) rfl
theorem k_X5_suspend_4 : (Cond.fieldLink RX5 117 "OrbitregisterModel" "day" "I") ∈ wsX5_suspend := List.mem_of_getElem? (i := 4) rfl
set_option maxHeartbeats 4000000 in
set_option maxRecDepth 100000 in
theorem c_X5_suspend (l : Launch) (D : va_G) (cI cJ cZ : ClassId) (a : Nat → Nat) (sz : Nat) (th : Int32) (td : Int32) (nd : Int32) (n : Nat) (ld : A32) (sl : A32) (bd : A32) (pw : A32) (dt : A32) (st : A32) (uc : A32) (sv : A32) (tl : A32) (so : A32) (ag : A32) (ns : Nat) (ss : A32) (rg : A32) (hw : A32) (ax : A32) (fu : A32) (si : A32) (au : A32) (px : A32) (pg : A32) (py : A64) (x1 : Int32) (x1' : Nat) (e_x1 : x1 = nI x1') (h_x1 : x1' < 40) : Met l yX5_suspend wsX5_suspend ({ frames := 0, cells := 0, slots := 0, locals := 0 }) (va_Pc [.ref (a 30), .int x1] (ZP D (zt cI cJ cZ) (wMo cI cJ cZ a th td nd n ld sl bd pw dt st uc sv tl so ag ns ss rg hw ax fu si au px pg py) sz zT)) (va_Qv (fun (_ : Unit) => True) (fun _ t => va_P D vwCl (wMo cI cJ cZ a th td nd n ld sl bd pw dt (upd st x1' 3) uc (upd sv x1' (-1)) tl (upd so x1' td) ag ns ss rg hw ax fu si au px pg py) t.heap) (va_A (wMo cI cJ cZ a th td nd n ld sl bd pw dt st uc sv tl so ag ns ss rg hw ax fu si au px pg py) sz)) 0 0 (va_A (wMo cI cJ cZ a th td nd n ld sl bd pw dt st uc sv tl so ag ns ss rg hw ax fu si au px pg py) sz) := by
  refine Met.ofW (cc := cX5_suspend) (maxL := 2) (ret := none) (by decide) rfl ?_
  intro p e s m args below meth c s₁ B hml hv
  obtain ⟨rfl, hsz, hP, hK, hD0, hE⟩ := hv
  have hx := B.exec
  have hb := B.bytes
  have hr := B.returns
  have hts := atoms_spec (ws := wsX5_suspend) B.pre
  have hown : s.vm.findClass RX5 = some m.cls := findClass_of_methodNamed B.named
  have hlocks := B.notSynchronized
  subst hsz
  have hD := hD0.self (sz := s.heap.size)
  generalize hAe : va_A (wMo cI cJ cZ a th td nd n ld sl bd pw dt st uc sv tl so ag ns ss rg hw ax fu si au px pg py) s.heap.size = A at hD ⊢
  have hA : ∀ q : Nat, s.heap.size ≤ q → A q := fun q h => by rw [← hAe]; exact Or.inr h
  have hS : va_S A s.heap s.heap [] := va_S.rf
  have hl := lv_entry ([.ref (a 30), .int x1]) (n := 2) (Nat.le_of_ble_eq_true rfl)
  rw [lg_entry_eq]
  generalize (lg_sl ([.ref (a 30), .int x1]) ++ List.replicate (2 - (lg_sl ([.ref (a 30), .int x1])).length) Slot.unset).toArray = ls at hl ⊢
  have hl : lv_has ls 2 [(0, .ref (a 30)), (1, .int x1)] := hl
  have hP : va_P D vwCl (wMo cI cJ cZ a th td nd n ld sl bd pw dt st uc sv tl so ag ns ss rg hw ax fu si au px pg py) s.heap := hP
  refine lv_aload_n hx hb dX5_suspend_0 rfl (lv_at hl 0 rfl) ?_
  refine z_get (ci := 5) (C := RX5) (T := TX5) (N := 26) hx hb hts b_X5_suspend_wsX50 hown hK hP 0 rfl rfl 9 (by decide) (hts _ k_X5_suspend_1) rfl (.ref (a 36)) rfl dX5_suspend_1 ?_
  refine lv_iload_n hx hb dX5_suspend_4 rfl (lv_at hl 1 rfl) ?_
  refine lv_iconst (v := 3) hx hb dX5_suspend_5 (by decide) ?_
  refine z_iast hx hb hK hP hD hS 6 0 rfl rfl x1' e_x1 (by omega) rfl dX5_suspend_6 (wMo cI cJ cZ a th td nd n ld sl bd pw dt (upd st x1' 3) uc sv tl so ag ns ss rg hw ax fu si au px pg py) rfl (fun H locs hP hD hS => ?_)
  refine lv_aload_n hx hb dX5_suspend_7 rfl (lv_at hl 0 rfl) ?_
  refine z_get (ci := 5) (C := RX5) (T := TX5) (N := 26) hx hb hts b_X5_suspend_wsX50 hown hK hP 0 rfl rfl 11 (by decide) (hts _ k_X5_suspend_2) rfl (.ref (a 38)) rfl dX5_suspend_8 ?_
  refine lv_iload_n hx hb dX5_suspend_11 rfl (lv_at hl 1 rfl) ?_
  refine lv_iconst (v := (-1)) hx hb dX5_suspend_12 (by decide) ?_
  refine z_iast hx hb hK hP hD hS 8 0 rfl rfl x1' e_x1 (by omega) rfl dX5_suspend_13 (wMo cI cJ cZ a th td nd n ld sl bd pw dt (upd st x1' 3) uc (upd sv x1' (-1)) tl so ag ns ss rg hw ax fu si au px pg py) rfl (fun H locs hP hD hS => ?_)
  refine lv_aload_n hx hb dX5_suspend_14 rfl (lv_at hl 0 rfl) ?_
  refine z_get (ci := 5) (C := RX5) (T := TX5) (N := 26) hx hb hts b_X5_suspend_wsX50 hown hK hP 0 rfl rfl 13 (by decide) (hts _ k_X5_suspend_3) rfl (.ref (a 40)) rfl dX5_suspend_15 ?_
  refine lv_iload_n hx hb dX5_suspend_18 rfl (lv_at hl 1 rfl) ?_
  refine lv_aload_n hx hb dX5_suspend_19 rfl (lv_at hl 0 rfl) ?_
  refine z_get (ci := 5) (C := RX5) (T := TX5) (N := 26) hx hb hts b_X5_suspend_wsX50 hown hK hP 0 rfl rfl 1 (by decide) (hts _ k_X5_suspend_4) rfl (.int td) rfl dX5_suspend_20 ?_
  refine z_iast hx hb hK hP hD hS 10 0 rfl rfl x1' e_x1 (by omega) rfl dX5_suspend_23 (wMo cI cJ cZ a th td nd n ld sl bd pw dt (upd st x1' 3) uc (upd sv x1' (-1)) tl (upd so x1' td) ag ns ss rg hw ax fu si au px pg py) rfl (fun H locs hP hD hS => ?_)
  exact W.vret hx hb hr (fun t ht hW => ⟨⟨(), rfl, trivial, (z_at ht hP)⟩, hS.F ht⟩) hS.2.2 dX5_suspend_24
theorem k_X5_lapse_1 : (Cond.fieldLink RX5 25 "OrbitregisterModel" "state" "[I") ∈ wsX5_lapse := List.mem_of_getElem? (i := 1) rfl
theorem b_X5_lapse_wsX50 : ∀ w ∈ wsX50, w ∈ wsX5_lapse := fun _ h => List.mem_cons_of_mem _ (List.mem_append_right _ h)
theorem k_X5_lapse_2 : (Cond.fieldLink RX5 32 "OrbitregisterModel" "servedBy" "[I") ∈ wsX5_lapse := List.mem_of_getElem? (i := 2) rfl
theorem k_X5_lapse_3 : (Cond.fieldLink RX5 41 "OrbitregisterModel" "agreed" "[I") ∈ wsX5_lapse := List.mem_of_getElem? (i := 3) rfl
set_option maxHeartbeats 4000000 in
set_option maxRecDepth 100000 in
theorem c_X5_lapse (l : Launch) (D : va_G) (cI cJ cZ : ClassId) (a : Nat → Nat) (sz : Nat) (th : Int32) (td : Int32) (nd : Int32) (n : Nat) (ld : A32) (sl : A32) (bd : A32) (pw : A32) (dt : A32) (st : A32) (uc : A32) (sv : A32) (tl : A32) (so : A32) (ag : A32) (ns : Nat) (ss : A32) (rg : A32) (hw : A32) (ax : A32) (fu : A32) (si : A32) (au : A32) (px : A32) (pg : A32) (py : A64) (x1 : Int32) (x1' : Nat) (e_x1 : x1 = nI x1') (h_x1 : x1' < 40) : Met l yX5_lapse wsX5_lapse ({ frames := 0, cells := 0, slots := 0, locals := 0 }) (va_Pc [.ref (a 30), .int x1] (ZP D (zt cI cJ cZ) (wMo cI cJ cZ a th td nd n ld sl bd pw dt st uc sv tl so ag ns ss rg hw ax fu si au px pg py) sz zT)) (va_Qv (fun (_ : Unit) => True) (fun _ t => va_P D vwCl (wMo cI cJ cZ a th td nd n ld sl bd pw dt (upd st x1' 4) uc (upd sv x1' (-1)) tl so (G_lapAg ag x1' 40) ns ss rg hw ax fu si au px pg py) t.heap) (va_A (wMo cI cJ cZ a th td nd n ld sl bd pw dt st uc sv tl so ag ns ss rg hw ax fu si au px pg py) sz)) 0 0 (va_A (wMo cI cJ cZ a th td nd n ld sl bd pw dt st uc sv tl so ag ns ss rg hw ax fu si au px pg py) sz) := by
  refine Met.ofW (cc := cX5_lapse) (maxL := 3) (ret := none) (by decide) rfl ?_
  intro p e s m args below meth c s₁ B hml hv
  obtain ⟨rfl, hsz, hP, hK, hD0, hE⟩ := hv
  have hx := B.exec
  have hb := B.bytes
  have hr := B.returns
  have hts := atoms_spec (ws := wsX5_lapse) B.pre
  have hown : s.vm.findClass RX5 = some m.cls := findClass_of_methodNamed B.named
  have hlocks := B.notSynchronized
  subst hsz
  have hD := hD0.self (sz := s.heap.size)
  generalize hAe : va_A (wMo cI cJ cZ a th td nd n ld sl bd pw dt st uc sv tl so ag ns ss rg hw ax fu si au px pg py) s.heap.size = A at hD ⊢
  have hA : ∀ q : Nat, s.heap.size ≤ q → A q := fun q h => by rw [← hAe]; exact Or.inr h
  have hS : va_S A s.heap s.heap [] := va_S.rf
  have hl := lv_entry ([.ref (a 30), .int x1]) (n := 3) (Nat.le_of_ble_eq_true rfl)
  rw [lg_entry_eq]
  generalize (lg_sl ([.ref (a 30), .int x1]) ++ List.replicate (3 - (lg_sl ([.ref (a 30), .int x1])).length) Slot.unset).toArray = ls at hl ⊢
  have hl : lv_has ls 3 [(0, .ref (a 30)), (1, .int x1)] := hl
  have hP : va_P D vwCl (wMo cI cJ cZ a th td nd n ld sl bd pw dt st uc sv tl so ag ns ss rg hw ax fu si au px pg py) s.heap := hP
  refine lv_aload_n hx hb dX5_lapse_0 rfl (lv_at hl 0 rfl) ?_
  refine z_get (ci := 5) (C := RX5) (T := TX5) (N := 26) hx hb hts b_X5_lapse_wsX50 hown hK hP 0 rfl rfl 9 (by decide) (hts _ k_X5_lapse_1) rfl (.ref (a 36)) rfl dX5_lapse_1 ?_
  refine lv_iload_n hx hb dX5_lapse_4 rfl (lv_at hl 1 rfl) ?_
  refine lv_iconst (v := 4) hx hb dX5_lapse_5 (by decide) ?_
  refine z_iast hx hb hK hP hD hS 6 0 rfl rfl x1' e_x1 (by omega) rfl dX5_lapse_6 (wMo cI cJ cZ a th td nd n ld sl bd pw dt (upd st x1' 4) uc sv tl so ag ns ss rg hw ax fu si au px pg py) rfl (fun H locs hP hD hS => ?_)
  refine lv_aload_n hx hb dX5_lapse_7 rfl (lv_at hl 0 rfl) ?_
  refine z_get (ci := 5) (C := RX5) (T := TX5) (N := 26) hx hb hts b_X5_lapse_wsX50 hown hK hP 0 rfl rfl 11 (by decide) (hts _ k_X5_lapse_2) rfl (.ref (a 38)) rfl dX5_lapse_8 ?_
  refine lv_iload_n hx hb dX5_lapse_11 rfl (lv_at hl 1 rfl) ?_
  refine lv_iconst (v := (-1)) hx hb dX5_lapse_12 (by decide) ?_
  refine z_iast hx hb hK hP hD hS 8 0 rfl rfl x1' e_x1 (by omega) rfl dX5_lapse_13 (wMo cI cJ cZ a th td nd n ld sl bd pw dt (upd st x1' 4) uc (upd sv x1' (-1)) tl so ag ns ss rg hw ax fu si au px pg py) rfl (fun H locs hP hD hS => ?_)
  refine lv_iconst (v := 0) hx hb dX5_lapse_14 (by decide) ?_
  refine lv_istore_n (lv' := [(2, .int 0), (0, .ref (a 30)), (1, .int x1)]) hx hb dX5_lapse_15 rfl hl (by decide) rfl (fun ls hl => ?_)
  have e_wag : G_lapAg ag x1' 0 = ag := by first | rfl | exact nI_0
  have hP : va_P D vwCl (wMo cI cJ cZ a th td nd n ld sl bd pw dt (upd st x1' 4) uc (upd sv x1' (-1)) tl so (G_lapAg ag x1' 0) ns ss rg hw ax fu si au px pg py) H := by rw [e_wag]; exact hP
  have e_l2 : (nI 0) = 0 := by first | rfl | exact nI_0
  have hl : lv_has ls 3 [(2, .int (nI 0)), (0, .ref (a 30)), (1, .int x1)] := by rw [e_l2]; exact lv_sub hl [0, 1, 2] rfl
  refine z_loop (D := D) (A := A) (H0 := s.heap) (N := 40) (Wf := fun i => (wMo cI cJ cZ a th td nd n ld sl bd pw dt (upd st x1' 4) uc (upd sv x1' (-1)) tl so (G_lapAg ag x1' i) ns ss rg hw ax fu si au px pg py)) (lvf := fun i => [(2, .int (nI i)), (0, .ref (a 30)), (1, .int x1)]) (Inv := fun i => True) 0 (by omega) trivial hP hS hl (fun i hi hinv H locs ls hP hS hl ih => ?_)
  have hP : va_P D vwCl (wMo cI cJ cZ a th td nd n ld sl bd pw dt (upd st x1' 4) uc (upd sv x1' (-1)) tl so (G_lapAg ag x1' i) ns ss rg hw ax fu si au px pg py) H := hP
  have hD : va_D A (wMo cI cJ cZ a th td nd n ld sl bd pw dt (upd st x1' 4) uc (upd sv x1' (-1)) tl so (G_lapAg ag x1' i) ns ss rg hw ax fu si au px pg py) := zD_congr (w1 := (wMo cI cJ cZ a th td nd n ld sl bd pw dt (upd st x1' 4) uc (upd sv x1' (-1)) tl so ag ns ss rg hw ax fu si au px pg py)) rfl hD
  have hl : lv_has ls 3 [(2, .int (nI i)), (0, .ref (a 30)), (1, .int x1)] := hl
  have hinv : True := hinv
  refine lv_iload_n hx hb dX5_lapse_16 rfl (lv_at hl 0 rfl) ?_
  refine lv_bipush (v := 40) hx hb dX5_lapse_17 (by decide) ?_
  refine lv_icmp_ge (tgt := 52) hx hb dX5_lapse_19 (by decide) (fun c_1 => ?_) (fun c_1 => ?_)
  · have f_1 := z_leN (a := 40) (b := i) c_1 (by decide) rfl (by omega) (by omega)
    have f_1n := Nat.not_lt.mpr f_1
    obtain rfl : 40 = i := by omega
    exact W.vret hx hb hr (fun t ht hW => ⟨⟨(), rfl, trivial, (z_at ht hP)⟩, hS.F ht⟩) hS.2.2 dX5_lapse_52
  · have f_1 := z_nleN (a := 40) (b := i) c_1 (by decide) rfl (by omega) (by omega)
    have f_1n := Nat.not_le.mpr f_1
    refine lv_aload_n hx hb dX5_lapse_22 rfl (lv_at hl 1 rfl) ?_
    refine z_get (ci := 5) (C := RX5) (T := TX5) (N := 26) hx hb hts b_X5_lapse_wsX50 hown hK hP 0 rfl rfl 14 (by decide) (hts _ k_X5_lapse_3) rfl (.ref (a 41)) rfl dX5_lapse_23 ?_
    refine lv_bipush (v := 40) hx hb dX5_lapse_26 (by decide) ?_
    refine lv_iload_n hx hb dX5_lapse_28 rfl (lv_at hl 2 rfl) ?_
    refine lv_imul hx hb dX5_lapse_29 ?_
    refine lv_iload_n hx hb dX5_lapse_30 rfl (lv_at hl 0 rfl) ?_
    refine lv_iadd hx hb dX5_lapse_31 ?_
    refine lv_iconst (v := (-1)) hx hb dX5_lapse_32 (by decide) ?_
    refine z_iast hx hb hK hP hD hS 11 0 rfl rfl ((40 * x1') + i) (z_iadd (z_imul (by decide) e_x1) rfl) (by omega) rfl dX5_lapse_33 (wMo cI cJ cZ a th td nd n ld sl bd pw dt (upd st x1' 4) uc (upd sv x1' (-1)) tl so (upd (G_lapAg ag x1' i) ((40 * x1') + i) (-1)) ns ss rg hw ax fu si au px pg py) rfl (fun H locs hP hD hS => ?_)
    refine lv_aload_n hx hb dX5_lapse_34 rfl (lv_at hl 1 rfl) ?_
    refine z_get (ci := 5) (C := RX5) (T := TX5) (N := 26) hx hb hts b_X5_lapse_wsX50 hown hK hP 0 rfl rfl 14 (by decide) (hts _ k_X5_lapse_3) rfl (.ref (a 41)) rfl dX5_lapse_35 ?_
    refine lv_bipush (v := 40) hx hb dX5_lapse_38 (by decide) ?_
    refine lv_iload_n hx hb dX5_lapse_40 rfl (lv_at hl 0 rfl) ?_
    refine lv_imul hx hb dX5_lapse_41 ?_
    refine lv_iload_n hx hb dX5_lapse_42 rfl (lv_at hl 2 rfl) ?_
    refine lv_iadd hx hb dX5_lapse_43 ?_
    refine lv_iconst (v := (-1)) hx hb dX5_lapse_44 (by decide) ?_
    refine z_iast hx hb hK hP hD hS 11 0 rfl rfl ((40 * i) + x1') (z_iadd (z_imul (by decide) rfl) e_x1) (by omega) rfl dX5_lapse_45 (wMo cI cJ cZ a th td nd n ld sl bd pw dt (upd st x1' 4) uc (upd sv x1' (-1)) tl so (upd (upd (G_lapAg ag x1' i) ((40 * x1') + i) (-1)) ((40 * i) + x1') (-1)) ns ss rg hw ax fu si au px pg py) rfl (fun H locs hP hD hS => ?_)
    refine lv_iinc (v := nI (i + 1)) (lv' := [(2, .int (nI (i + 1))), (0, .ref (a 30)), (1, .int x1)]) hx hb dX5_lapse_46 hl (k := 0) rfl (z_inc1 i) (by decide) rfl (fun ls hl => ?_)
    refine lv_goto (tgt := 16) hx hb dX5_lapse_49 (by decide) ?_
    have e_wag : G_lapAg ag x1' (i + 1) = (upd (upd (G_lapAg ag x1' i) ((40 * x1') + i) (-1)) ((40 * i) + x1') (-1)) := by first | with_reducible rfl | (simp only [G_lapAg, if_neg c_1, if_pos f_1, if_neg f_1n]; done) | (simp +decide only [G_lapAg, f_1, if_neg c_1, if_pos f_1, if_neg f_1n]; done) | (simp [G_lapAg, c_1, f_1, f_1n, f_1]; done) | (simp +decide [G_lapAg, c_1, f_1, f_1n, f_1]; done)
    have hP : va_P D vwCl (wMo cI cJ cZ a th td nd n ld sl bd pw dt (upd st x1' 4) uc (upd sv x1' (-1)) tl so (G_lapAg ag x1' (i + 1)) ns ss rg hw ax fu si au px pg py) H := by rw [e_wag]; exact hP
    have hl : lv_has ls 3 [(2, .int (nI (i + 1))), (0, .ref (a 30)), (1, .int x1)] := lv_sub hl [0, 1, 2] rfl
    exact ih H locs ls (by omega) trivial hP hS hl
theorem k_X5_served_1 : (Cond.fieldLink RX5 79 "OrbitregisterModel" "filings" "I") ∈ wsX5_served := List.mem_of_getElem? (i := 1) rfl
theorem b_X5_served_wsX50 : ∀ w ∈ wsX50, w ∈ wsX5_served := fun _ h => List.mem_cons_of_mem _ (List.mem_append_right _ h)
theorem k_X5_served_2 : (Cond.fieldLink RX5 32 "OrbitregisterModel" "servedBy" "[I") ∈ wsX5_served := List.mem_of_getElem? (i := 2) rfl
set_option maxHeartbeats 4000000 in
set_option maxRecDepth 100000 in
theorem c_X5_served (l : Launch) (D : va_G) (cI cJ cZ : ClassId) (a : Nat → Nat) (sz : Nat) (th : Int32) (td : Int32) (nd : Int32) (n : Nat) (ld : A32) (sl : A32) (bd : A32) (pw : A32) (dt : A32) (st : A32) (uc : A32) (sv : A32) (tl : A32) (so : A32) (ag : A32) (ns : Nat) (ss : A32) (rg : A32) (hw : A32) (ax : A32) (fu : A32) (si : A32) (au : A32) (px : A32) (pg : A32) (py : A64) (x1 : Int32) (hn : n ≤ 40) : Met l yX5_served wsX5_served ({ frames := 0, cells := 0, slots := 0, locals := 0 }) (va_Pc [.ref (a 30), .int x1] (ZP D (zt cI cJ cZ) (wMo cI cJ cZ a th td nd n ld sl bd pw dt st uc sv tl so ag ns ss rg hw ax fu si au px pg py) sz zT)) (va_Qi (fun (r : Int32) (_ : Unit) => r = G_served sv x1 n) (fun _ _ => True) (va_A [] sz)) 0 0 (va_A [] sz) := by
  refine Met.ofW (cc := cX5_served) (maxL := 4) (ret := (some .int)) (by decide) rfl ?_
  intro p e s m args below meth c s₁ B hml hv
  obtain ⟨rfl, hsz, hP, hK, hD0, hE⟩ := hv
  have hx := B.exec
  have hb := B.bytes
  have hr := B.returns
  have hts := atoms_spec (ws := wsX5_served) B.pre
  have hown : s.vm.findClass RX5 = some m.cls := findClass_of_methodNamed B.named
  have hlocks := B.notSynchronized
  subst hsz
  have hD := hD0
  generalize hAe : va_A [] s.heap.size = A at ⊢
  have hA : ∀ q : Nat, s.heap.size ≤ q → A q := fun q h => by rw [← hAe]; exact Or.inr h
  have hS : va_S A s.heap s.heap [] := va_S.rf
  have hl := lv_entry ([.ref (a 30), .int x1]) (n := 4) (Nat.le_of_ble_eq_true rfl)
  rw [lg_entry_eq]
  generalize (lg_sl ([.ref (a 30), .int x1]) ++ List.replicate (4 - (lg_sl ([.ref (a 30), .int x1])).length) Slot.unset).toArray = ls at hl ⊢
  have hl : lv_has ls 4 [(0, .ref (a 30)), (1, .int x1)] := hl
  have hP : va_P D vwCl (wMo cI cJ cZ a th td nd n ld sl bd pw dt st uc sv tl so ag ns ss rg hw ax fu si au px pg py) s.heap := hP
  refine lv_iconst (v := 0) hx hb dX5_served_0 (by decide) ?_
  refine lv_istore_n (lv' := [(2, .int 0), (0, .ref (a 30)), (1, .int x1)]) hx hb dX5_served_1 rfl hl (by decide) rfl (fun ls hl => ?_)
  refine lv_iconst (v := 0) hx hb dX5_served_2 (by decide) ?_
  refine lv_istore_n (lv' := [(3, .int 0), (2, .int 0), (0, .ref (a 30)), (1, .int x1)]) hx hb dX5_served_3 rfl hl (by decide) rfl (fun ls hl => ?_)
  have e_l2 : (G_served sv x1 0) = 0 := by first | rfl | exact nI_0
  have e_l3 : (nI 0) = 0 := by first | rfl | exact nI_0
  have hl : lv_has ls 4 [(2, .int (G_served sv x1 0)), (3, .int (nI 0)), (0, .ref (a 30)), (1, .int x1)] := by rw [e_l2, e_l3]; exact lv_sub hl [1, 0, 2, 3] rfl
  refine z_loop (D := D) (A := A) (H0 := s.heap) (N := n) (Wf := fun i => (wMo cI cJ cZ a th td nd n ld sl bd pw dt st uc sv tl so ag ns ss rg hw ax fu si au px pg py)) (lvf := fun i => [(2, .int (G_served sv x1 i)), (3, .int (nI i)), (0, .ref (a 30)), (1, .int x1)]) (Inv := fun i => True) 0 (by omega) trivial hP hS hl (fun i hi hinv H locs ls hP hS hl ih => ?_)
  have hP : va_P D vwCl (wMo cI cJ cZ a th td nd n ld sl bd pw dt st uc sv tl so ag ns ss rg hw ax fu si au px pg py) H := hP
  have hl : lv_has ls 4 [(2, .int (G_served sv x1 i)), (3, .int (nI i)), (0, .ref (a 30)), (1, .int x1)] := hl
  have hinv : True := hinv
  refine lv_iload_n hx hb dX5_served_4 rfl (lv_at hl 1 rfl) ?_
  refine lv_aload_n hx hb dX5_served_5 rfl (lv_at hl 2 rfl) ?_
  refine z_get (ci := 5) (C := RX5) (T := TX5) (N := 26) hx hb hts b_X5_served_wsX50 hown hK hP 0 rfl rfl 3 (by decide) (hts _ k_X5_served_1) rfl (.int (nI n)) rfl dX5_served_6 ?_
  refine lv_icmp_ge (tgt := 36) hx hb dX5_served_9 (by decide) (fun c_1 => ?_) (fun c_1 => ?_)
  · have f_1 := z_leN (a := n) (b := i) c_1 rfl rfl (by omega) (by omega)
    have f_1n := Nat.not_lt.mpr f_1
    obtain rfl : n = i := by omega
    refine lv_iload_n hx hb dX5_served_36 rfl (lv_at hl 0 rfl) ?_
    exact W.iret (v := G_served sv x1 n) hx hb hr (fun t ht hW => ⟨⟨G_served sv x1 n, (), rfl, rfl, trivial⟩, hS.F ht⟩) hS.2.2 dX5_served_37
  · have f_1 := z_nleN (a := n) (b := i) c_1 rfl rfl (by omega) (by omega)
    have f_1n := Nat.not_le.mpr f_1
    refine lv_iload_n hx hb dX5_served_12 rfl (lv_at hl 0 rfl) ?_
    refine lv_aload_n hx hb dX5_served_13 rfl (lv_at hl 2 rfl) ?_
    refine z_get (ci := 5) (C := RX5) (T := TX5) (N := 26) hx hb hts b_X5_served_wsX50 hown hK hP 0 rfl rfl 11 (by decide) (hts _ k_X5_served_2) rfl (.ref (a 38)) rfl dX5_served_14 ?_
    refine lv_iload_n hx hb dX5_served_17 rfl (lv_at hl 1 rfl) ?_
    refine z_iald hx hb hK hP 8 0 rfl rfl i rfl (by omega) rfl dX5_served_18 ?_
    refine lv_iload_n hx hb dX5_served_19 rfl (lv_at hl 3 rfl) ?_
    refine lv_icmp_ne (tgt := 27) hx hb dX5_served_20 (by decide) (fun c_2 => ?_) (fun c_2 => ?_)
    · refine lv_iconst (v := 0) hx hb dX5_served_27 (by decide) ?_
      refine lv_iadd hx hb dX5_served_28 ?_
      refine lv_istore_n (lv' := [(2, .int ((G_served sv x1 i) + 0)), (3, .int (nI i)), (0, .ref (a 30)), (1, .int x1)]) hx hb dX5_served_29 rfl hl (by decide) rfl (fun ls hl => ?_)
      refine lv_iinc (v := nI (i + 1)) (lv' := [(3, .int (nI (i + 1))), (2, .int ((G_served sv x1 i) + 0)), (0, .ref (a 30)), (1, .int x1)]) hx hb dX5_served_30 hl (k := 1) rfl (z_inc1 i) (by decide) rfl (fun ls hl => ?_)
      refine lv_goto (tgt := 4) hx hb dX5_served_33 (by decide) ?_
      have e_l2 : (G_served sv x1 (i + 1)) = (G_served sv x1 i) + 0 := by first | with_reducible rfl | (simp only [G_served, if_neg c_1, if_pos f_1, if_neg f_1n, if_neg c_2]; done) | (simp +decide only [G_served, f_1, if_neg c_1, if_pos f_1, if_neg f_1n, if_neg c_2]; done) | (simp [G_served, c_1, f_1, f_1n, c_2, f_1]; done) | (simp +decide [G_served, c_1, f_1, f_1n, c_2, f_1]; done)
      have hl : lv_has ls 4 [(2, .int (G_served sv x1 (i + 1))), (3, .int (nI (i + 1))), (0, .ref (a 30)), (1, .int x1)] := by rw [e_l2]; exact lv_sub hl [1, 0, 2, 3] rfl
      exact ih H locs ls (by omega) trivial hP hS hl
    · refine lv_iconst (v := 1) hx hb dX5_served_23 (by decide) ?_
      refine lv_goto (tgt := 28) hx hb dX5_served_24 (by decide) ?_
      refine lv_iadd hx hb dX5_served_28 ?_
      refine lv_istore_n (lv' := [(2, .int ((G_served sv x1 i) + 1)), (3, .int (nI i)), (0, .ref (a 30)), (1, .int x1)]) hx hb dX5_served_29 rfl hl (by decide) rfl (fun ls hl => ?_)
      refine lv_iinc (v := nI (i + 1)) (lv' := [(3, .int (nI (i + 1))), (2, .int ((G_served sv x1 i) + 1)), (0, .ref (a 30)), (1, .int x1)]) hx hb dX5_served_30 hl (k := 1) rfl (z_inc1 i) (by decide) rfl (fun ls hl => ?_)
      refine lv_goto (tgt := 4) hx hb dX5_served_33 (by decide) ?_
      have e_l2 : (G_served sv x1 (i + 1)) = (G_served sv x1 i) + 1 := by first | with_reducible rfl | (simp only [G_served, if_neg c_1, if_pos f_1, if_neg f_1n, if_pos c_2]; done) | (simp +decide only [G_served, f_1, if_neg c_1, if_pos f_1, if_neg f_1n, if_pos c_2]; done) | (simp [G_served, c_1, f_1, f_1n, c_2, f_1]; done) | (simp +decide [G_served, c_1, f_1, f_1n, c_2, f_1]; done)
      have hl : lv_has ls 4 [(2, .int (G_served sv x1 (i + 1))), (3, .int (nI (i + 1))), (0, .ref (a 30)), (1, .int x1)] := by rw [e_l2]; exact lv_sub hl [1, 0, 2, 3] rfl
      exact ih H locs ls (by omega) trivial hP hS hl
theorem k_X5_leaves_1 : (Cond.fieldLink RX5 79 "OrbitregisterModel" "filings" "I") ∈ wsX5_leaves := List.mem_of_getElem? (i := 1) rfl
theorem b_X5_leaves_wsX50 : ∀ w ∈ wsX50, w ∈ wsX5_leaves := fun _ h => List.mem_cons_of_mem _ (List.mem_append_right _ h)
theorem k_X5_leaves_2 : (Cond.fieldLink RX5 32 "OrbitregisterModel" "servedBy" "[I") ∈ wsX5_leaves := List.mem_of_getElem? (i := 2) rfl
set_option maxHeartbeats 4000000 in
set_option maxRecDepth 100000 in
theorem c_X5_leaves (l : Launch) (D : va_G) (cI cJ cZ : ClassId) (a : Nat → Nat) (sz : Nat) (th : Int32) (td : Int32) (nd : Int32) (n : Nat) (ld : A32) (sl : A32) (bd : A32) (pw : A32) (dt : A32) (st : A32) (uc : A32) (sv : A32) (tl : A32) (so : A32) (ag : A32) (ns : Nat) (ss : A32) (rg : A32) (hw : A32) (ax : A32) (fu : A32) (si : A32) (au : A32) (px : A32) (pg : A32) (py : A64) (x1 : Int32) (hn : n ≤ 40) : Met l yX5_leaves wsX5_leaves ({ frames := 1, cells := 0, slots := 0, locals := 23 }) (va_Pc [.ref (a 30), .int x1] (ZP D (zt cI cJ cZ) (wMo cI cJ cZ a th td nd n ld sl bd pw dt st uc sv tl so ag ns ss rg hw ax fu si au px pg py) sz zT)) (va_Qi (fun (r : Int32) (_ : Unit) => r = G_served sv x1 n) (fun _ t => va_P D vwCl (wMo cI cJ cZ a th td nd n ld sl bd pw dt (F_susSt st sv x1 n) uc (F_susSv sv x1 n) tl (F_susSo so sv x1 td n) ag ns ss rg hw ax fu si au px pg py) t.heap) (va_A (wMo cI cJ cZ a th td nd n ld sl bd pw dt st uc sv tl so ag ns ss rg hw ax fu si au px pg py) sz)) 0 0 (va_A (wMo cI cJ cZ a th td nd n ld sl bd pw dt st uc sv tl so ag ns ss rg hw ax fu si au px pg py) sz) := by
  refine Met.ofW (cc := cX5_leaves) (maxL := 4) (ret := (some .int)) (by decide) rfl ?_
  intro p e s m args below meth c s₁ B hml hv
  obtain ⟨rfl, hsz, hP, hK, hD0, hE⟩ := hv
  have hx := B.exec
  have hb := B.bytes
  have hr := B.returns
  have hts := atoms_spec (ws := wsX5_leaves) B.pre
  have hown : s.vm.findClass RX5 = some m.cls := findClass_of_methodNamed B.named
  have hlocks := B.notSynchronized
  subst hsz
  have hD := hD0.self (sz := s.heap.size)
  generalize hAe : va_A (wMo cI cJ cZ a th td nd n ld sl bd pw dt st uc sv tl so ag ns ss rg hw ax fu si au px pg py) s.heap.size = A at hD ⊢
  have hA : ∀ q : Nat, s.heap.size ≤ q → A q := fun q h => by rw [← hAe]; exact Or.inr h
  have hS : va_S A s.heap s.heap [] := va_S.rf
  have hl := lv_entry ([.ref (a 30), .int x1]) (n := 4) (Nat.le_of_ble_eq_true rfl)
  rw [lg_entry_eq]
  generalize (lg_sl ([.ref (a 30), .int x1]) ++ List.replicate (4 - (lg_sl ([.ref (a 30), .int x1])).length) Slot.unset).toArray = ls at hl ⊢
  have hl : lv_has ls 4 [(0, .ref (a 30)), (1, .int x1)] := hl
  have hP : va_P D vwCl (wMo cI cJ cZ a th td nd n ld sl bd pw dt st uc sv tl so ag ns ss rg hw ax fu si au px pg py) s.heap := hP
  refine lv_aload_n hx hb dX5_leaves_0 rfl (lv_at hl 0 rfl) ?_
  refine lv_iload_n hx hb dX5_leaves_1 rfl (lv_at hl 1 rfl) ?_
  refine z_ri (va_runV (As := [.int x1]) (rest := []) ⟨hx, hb, hml, hown, hts⟩ (c_X5_served l D cI cJ cZ a s.heap.size th td nd n ld sl bd pw dt st uc sv tl so ag ns ss rg hw ax fu si au px pg py x1 (by first | assumption | omega)) (cwV 1 hts gX5_leaves_X5_served rfl rfl rfl (by decide +kernel) ⟨Nat.le_of_ble_eq_true rfl, Nat.le_of_ble_eq_true rfl⟩) (z_pv hK hP hD (q0 := 0) (ci := 5) rfl rfl zT_b zT_m) rfl rfl hl.1 rfl (lv_room (Nat.le_of_ble_eq_true rfl)) dX5_leaves_2 ⟨Nat.le_of_ble_eq_true rfl, Nat.le_of_ble_eq_true rfl⟩) hP hS hA (fun r_1 _ H locs hr_1 hP hS => ?_)
  subst hr_1
  refine lv_istore_n (lv' := [(2, .int (G_served sv x1 n)), (0, .ref (a 30)), (1, .int x1)]) hx hb dX5_leaves_5 rfl hl (by decide) rfl (fun ls hl => ?_)
  refine lv_iconst (v := 0) hx hb dX5_leaves_6 (by decide) ?_
  refine lv_istore_n (lv' := [(3, .int 0), (2, .int (G_served sv x1 n)), (0, .ref (a 30)), (1, .int x1)]) hx hb dX5_leaves_7 rfl hl (by decide) rfl (fun ls hl => ?_)
  have e_wst : F_susSt st sv x1 0 = st := by first | rfl | exact nI_0
  have e_wsv : F_susSv sv x1 0 = sv := by first | rfl | exact nI_0
  have e_wso : F_susSo so sv x1 td 0 = so := by first | rfl | exact nI_0
  have hP : va_P D vwCl (wMo cI cJ cZ a th td nd n ld sl bd pw dt (F_susSt st sv x1 0) uc (F_susSv sv x1 0) tl (F_susSo so sv x1 td 0) ag ns ss rg hw ax fu si au px pg py) H := by rw [e_wst, e_wsv, e_wso]; exact hP
  have e_l3 : (nI 0) = 0 := by first | rfl | exact nI_0
  have hl : lv_has ls 4 [(3, .int (nI 0)), (2, .int (G_served sv x1 n)), (0, .ref (a 30)), (1, .int x1)] := by rw [e_l3]; exact lv_sub hl [0, 1, 2, 3] rfl
  refine z_loop (D := D) (A := A) (H0 := s.heap) (N := n) (Wf := fun i => (wMo cI cJ cZ a th td nd n ld sl bd pw dt (F_susSt st sv x1 i) uc (F_susSv sv x1 i) tl (F_susSo so sv x1 td i) ag ns ss rg hw ax fu si au px pg py)) (lvf := fun i => [(3, .int (nI i)), (2, .int (G_served sv x1 n)), (0, .ref (a 30)), (1, .int x1)]) (Inv := fun i => True) 0 (by omega) trivial hP hS hl (fun i hi hinv H locs ls hP hS hl ih => ?_)
  have hP : va_P D vwCl (wMo cI cJ cZ a th td nd n ld sl bd pw dt (F_susSt st sv x1 i) uc (F_susSv sv x1 i) tl (F_susSo so sv x1 td i) ag ns ss rg hw ax fu si au px pg py) H := hP
  have hD : va_D A (wMo cI cJ cZ a th td nd n ld sl bd pw dt (F_susSt st sv x1 i) uc (F_susSv sv x1 i) tl (F_susSo so sv x1 td i) ag ns ss rg hw ax fu si au px pg py) := zD_congr (w1 := (wMo cI cJ cZ a th td nd n ld sl bd pw dt st uc sv tl so ag ns ss rg hw ax fu si au px pg py)) rfl hD
  have hl : lv_has ls 4 [(3, .int (nI i)), (2, .int (G_served sv x1 n)), (0, .ref (a 30)), (1, .int x1)] := hl
  have hinv : True := hinv
  refine lv_iload_n hx hb dX5_leaves_8 rfl (lv_at hl 0 rfl) ?_
  refine lv_aload_n hx hb dX5_leaves_9 rfl (lv_at hl 2 rfl) ?_
  refine z_get (ci := 5) (C := RX5) (T := TX5) (N := 26) hx hb hts b_X5_leaves_wsX50 hown hK hP 0 rfl rfl 3 (by decide) (hts _ k_X5_leaves_1) rfl (.int (nI n)) rfl dX5_leaves_10 ?_
  refine lv_icmp_ge (tgt := 37) hx hb dX5_leaves_13 (by decide) (fun c_2 => ?_) (fun c_2 => ?_)
  · have f_2 := z_leN (a := n) (b := i) c_2 rfl rfl (by omega) (by omega)
    have f_2n := Nat.not_lt.mpr f_2
    obtain rfl : n = i := by omega
    refine lv_iload_n hx hb dX5_leaves_37 rfl (lv_at hl 1 rfl) ?_
    exact W.iret (v := G_served sv x1 n) hx hb hr (fun t ht hW => ⟨⟨G_served sv x1 n, (), rfl, rfl, (z_at ht hP)⟩, hS.F ht⟩) hS.2.2 dX5_leaves_38
  · have f_2 := z_nleN (a := n) (b := i) c_2 rfl rfl (by omega) (by omega)
    have f_2n := Nat.not_le.mpr f_2
    refine lv_aload_n hx hb dX5_leaves_16 rfl (lv_at hl 2 rfl) ?_
    refine z_get (ci := 5) (C := RX5) (T := TX5) (N := 26) hx hb hts b_X5_leaves_wsX50 hown hK hP 0 rfl rfl 11 (by decide) (hts _ k_X5_leaves_2) rfl (.ref (a 38)) rfl dX5_leaves_17 ?_
    refine lv_iload_n hx hb dX5_leaves_20 rfl (lv_at hl 0 rfl) ?_
    refine z_iald hx hb hK hP 8 0 rfl rfl i rfl (by omega) rfl dX5_leaves_21 ?_
    refine lv_iload_n hx hb dX5_leaves_22 rfl (lv_at hl 3 rfl) ?_
    refine lv_icmp_ne (tgt := 31) hx hb dX5_leaves_23 (by decide) (fun c_3 => ?_) (fun c_3 => ?_)
    · refine lv_iinc (v := nI (i + 1)) (lv' := [(3, .int (nI (i + 1))), (2, .int (G_served sv x1 n)), (0, .ref (a 30)), (1, .int x1)]) hx hb dX5_leaves_31 hl (k := 0) rfl (z_inc1 i) (by decide) rfl (fun ls hl => ?_)
      refine lv_goto (tgt := 8) hx hb dX5_leaves_34 (by decide) ?_
      have e_wst : F_susSt st sv x1 (i + 1) = F_susSt st sv x1 i := by first | with_reducible rfl | (simp only [F_susSt, F_susSv, F_susSo, if_neg c_2, if_pos f_2, if_neg f_2n, if_neg c_3]; done) | (simp +decide only [F_susSt, F_susSv, F_susSo, f_2, if_neg c_2, if_pos f_2, if_neg f_2n, if_neg c_3]; done) | (simp [F_susSt, F_susSv, F_susSo, c_2, f_2, f_2n, c_3, f_2]; done) | (simp +decide [F_susSt, F_susSv, F_susSo, c_2, f_2, f_2n, c_3, f_2]; done)
      have e_wsv : F_susSv sv x1 (i + 1) = F_susSv sv x1 i := by first | with_reducible rfl | (simp only [F_susSt, F_susSv, F_susSo, if_neg c_2, if_pos f_2, if_neg f_2n, if_neg c_3]; done) | (simp +decide only [F_susSt, F_susSv, F_susSo, f_2, if_neg c_2, if_pos f_2, if_neg f_2n, if_neg c_3]; done) | (simp [F_susSt, F_susSv, F_susSo, c_2, f_2, f_2n, c_3, f_2]; done) | (simp +decide [F_susSt, F_susSv, F_susSo, c_2, f_2, f_2n, c_3, f_2]; done)
      have e_wso : F_susSo so sv x1 td (i + 1) = F_susSo so sv x1 td i := by first | with_reducible rfl | (simp only [F_susSt, F_susSv, F_susSo, if_neg c_2, if_pos f_2, if_neg f_2n, if_neg c_3]; done) | (simp +decide only [F_susSt, F_susSv, F_susSo, f_2, if_neg c_2, if_pos f_2, if_neg f_2n, if_neg c_3]; done) | (simp [F_susSt, F_susSv, F_susSo, c_2, f_2, f_2n, c_3, f_2]; done) | (simp +decide [F_susSt, F_susSv, F_susSo, c_2, f_2, f_2n, c_3, f_2]; done)
      have hP : va_P D vwCl (wMo cI cJ cZ a th td nd n ld sl bd pw dt (F_susSt st sv x1 (i + 1)) uc (F_susSv sv x1 (i + 1)) tl (F_susSo so sv x1 td (i + 1)) ag ns ss rg hw ax fu si au px pg py) H := by rw [e_wst, e_wsv, e_wso]; exact hP
      have hl : lv_has ls 4 [(3, .int (nI (i + 1))), (2, .int (G_served sv x1 n)), (0, .ref (a 30)), (1, .int x1)] := lv_sub hl [0, 1, 2, 3] rfl
      exact ih H locs ls (by omega) trivial hP hS hl
    · refine lv_aload_n hx hb dX5_leaves_26 rfl (lv_at hl 2 rfl) ?_
      refine lv_iload_n hx hb dX5_leaves_27 rfl (lv_at hl 0 rfl) ?_
      refine z_cv (pre := ([] : va_W)) (wc := (wMo cI cJ cZ a th td nd n ld sl bd pw dt (F_susSt st sv x1 i) uc (F_susSv sv x1 i) tl (F_susSo so sv x1 td i) ag ns ss rg hw ax fu si au px pg py)) (suf := ([] : va_W)) (w1 := fun _ => (wMo cI cJ cZ a th td nd n ld sl bd pw dt (upd (F_susSt st sv x1 i) i 3) uc (upd (F_susSv sv x1 i) i (-1)) tl (upd (F_susSo so sv x1 td i) i td) ag ns ss rg hw ax fu si au px pg py)) (va_runV (As := [.int (nI i)]) (rest := []) ⟨hx, hb, hml, hown, hts⟩ (c_X5_suspend l D cI cJ cZ a H.size th td nd n ld sl bd pw dt (F_susSt st sv x1 i) uc (F_susSv sv x1 i) tl (F_susSo so sv x1 td i) ag ns ss rg hw ax fu si au px pg py (nI i) i rfl (by omega)) (cwV 1 hts gX5_leaves_X5_suspend rfl rfl rfl (by decide +kernel) ⟨Nat.le_of_ble_eq_true rfl, Nat.le_of_ble_eq_true rfl⟩) (z_pv hK hP hD (q0 := 0) (ci := 5) rfl rfl zT_b zT_m) rfl rfl hl.1 rfl (lv_room (Nat.le_of_ble_eq_true rfl)) dX5_leaves_28 ⟨Nat.le_of_ble_eq_true rfl, Nat.le_of_ble_eq_true rfl⟩) hP hD hS hA (fun _ => rfl) (fun _ H locs hr_4 hP hD hS => ?_)
      refine lv_iinc (v := nI (i + 1)) (lv' := [(3, .int (nI (i + 1))), (2, .int (G_served sv x1 n)), (0, .ref (a 30)), (1, .int x1)]) hx hb dX5_leaves_31 hl (k := 0) rfl (z_inc1 i) (by decide) rfl (fun ls hl => ?_)
      refine lv_goto (tgt := 8) hx hb dX5_leaves_34 (by decide) ?_
      have e_wst : F_susSt st sv x1 (i + 1) = upd (F_susSt st sv x1 i) i 3 := by first | with_reducible rfl | (simp only [F_susSt, F_susSv, F_susSo, if_neg c_2, if_pos f_2, if_neg f_2n, if_pos c_3]; done) | (simp +decide only [F_susSt, F_susSv, F_susSo, f_2, if_neg c_2, if_pos f_2, if_neg f_2n, if_pos c_3]; done) | (simp [F_susSt, F_susSv, F_susSo, c_2, f_2, f_2n, c_3, f_2]; done) | (simp +decide [F_susSt, F_susSv, F_susSo, c_2, f_2, f_2n, c_3, f_2]; done)
      have e_wsv : F_susSv sv x1 (i + 1) = upd (F_susSv sv x1 i) i (-1) := by first | with_reducible rfl | (simp only [F_susSt, F_susSv, F_susSo, if_neg c_2, if_pos f_2, if_neg f_2n, if_pos c_3]; done) | (simp +decide only [F_susSt, F_susSv, F_susSo, f_2, if_neg c_2, if_pos f_2, if_neg f_2n, if_pos c_3]; done) | (simp [F_susSt, F_susSv, F_susSo, c_2, f_2, f_2n, c_3, f_2]; done) | (simp +decide [F_susSt, F_susSv, F_susSo, c_2, f_2, f_2n, c_3, f_2]; done)
      have e_wso : F_susSo so sv x1 td (i + 1) = upd (F_susSo so sv x1 td i) i td := by first | with_reducible rfl | (simp only [F_susSt, F_susSv, F_susSo, if_neg c_2, if_pos f_2, if_neg f_2n, if_pos c_3]; done) | (simp +decide only [F_susSt, F_susSv, F_susSo, f_2, if_neg c_2, if_pos f_2, if_neg f_2n, if_pos c_3]; done) | (simp [F_susSt, F_susSv, F_susSo, c_2, f_2, f_2n, c_3, f_2]; done) | (simp +decide [F_susSt, F_susSv, F_susSo, c_2, f_2, f_2n, c_3, f_2]; done)
      have hP : va_P D vwCl (wMo cI cJ cZ a th td nd n ld sl bd pw dt (F_susSt st sv x1 (i + 1)) uc (F_susSv sv x1 (i + 1)) tl (F_susSo so sv x1 td (i + 1)) ag ns ss rg hw ax fu si au px pg py) H := by rw [e_wst, e_wsv, e_wso]; exact hP
      have hl : lv_has ls 4 [(3, .int (nI (i + 1))), (2, .int (G_served sv x1 n)), (0, .ref (a 30)), (1, .int x1)] := lv_sub hl [0, 1, 2, 3] rfl
      exact ih H locs ls (by omega) trivial hP hS hl
theorem k_X5_canDodge_1 : (Cond.fieldLink RX5 50 "OrbitregisterModel" "how" "[I") ∈ wsX5_canDodge := List.mem_of_getElem? (i := 1) rfl
theorem b_X5_canDodge_wsX50 : ∀ w ∈ wsX50, w ∈ wsX5_canDodge := fun _ h => List.mem_cons_of_mem _ (List.mem_append_right _ h)
theorem k_X5_canDodge_2 : (Cond.fieldLink RX5 56 "OrbitregisterModel" "fuel" "[I") ∈ wsX5_canDodge := List.mem_of_getElem? (i := 2) rfl
set_option maxHeartbeats 4000000 in
set_option maxRecDepth 100000 in
theorem c_X5_canDodge (l : Launch) (D : va_G) (cI cJ cZ : ClassId) (a : Nat → Nat) (sz : Nat) (th : Int32) (td : Int32) (nd : Int32) (n : Nat) (ld : A32) (sl : A32) (bd : A32) (pw : A32) (dt : A32) (st : A32) (uc : A32) (sv : A32) (tl : A32) (so : A32) (ag : A32) (ns : Nat) (ss : A32) (rg : A32) (hw : A32) (ax : A32) (fu : A32) (si : A32) (au : A32) (px : A32) (pg : A32) (py : A64) (x1 : Int32) (x1' : Nat) (e_x1 : x1 = nI x1') (h_x1 : x1' < 16) : Met l yX5_canDodge wsX5_canDodge ({ frames := 0, cells := 0, slots := 0, locals := 0 }) (va_Pc [.ref (a 30), .int x1] (ZP D (zt cI cJ cZ) (wMo cI cJ cZ a th td nd n ld sl bd pw dt st uc sv tl so ag ns ss rg hw ax fu si au px pg py) sz zT)) (va_Qi (fun (r : Int32) (_ : Unit) => r = G_can hw fu x1') (fun _ _ => True) (va_A [] sz)) 0 0 (va_A [] sz) := by
  refine Met.ofW (cc := cX5_canDodge) (maxL := 2) (ret := (some .boolean)) (by decide) rfl ?_
  intro p e s m args below meth c s₁ B hml hv
  obtain ⟨rfl, hsz, hP, hK, hD0, hE⟩ := hv
  have hx := B.exec
  have hb := B.bytes
  have hr := B.returns
  have hts := atoms_spec (ws := wsX5_canDodge) B.pre
  have hown : s.vm.findClass RX5 = some m.cls := findClass_of_methodNamed B.named
  have hlocks := B.notSynchronized
  subst hsz
  have hD := hD0
  generalize hAe : va_A [] s.heap.size = A at ⊢
  have hA : ∀ q : Nat, s.heap.size ≤ q → A q := fun q h => by rw [← hAe]; exact Or.inr h
  have hS : va_S A s.heap s.heap [] := va_S.rf
  have hl := lv_entry ([.ref (a 30), .int x1]) (n := 2) (Nat.le_of_ble_eq_true rfl)
  rw [lg_entry_eq]
  generalize (lg_sl ([.ref (a 30), .int x1]) ++ List.replicate (2 - (lg_sl ([.ref (a 30), .int x1])).length) Slot.unset).toArray = ls at hl ⊢
  have hl : lv_has ls 2 [(0, .ref (a 30)), (1, .int x1)] := hl
  have hP : va_P D vwCl (wMo cI cJ cZ a th td nd n ld sl bd pw dt st uc sv tl so ag ns ss rg hw ax fu si au px pg py) s.heap := hP
  refine lv_aload_n hx hb dX5_canDodge_0 rfl (lv_at hl 0 rfl) ?_
  refine z_get (ci := 5) (C := RX5) (T := TX5) (N := 26) hx hb hts b_X5_canDodge_wsX50 hown hK hP 0 rfl rfl 18 (by decide) (hts _ k_X5_canDodge_1) rfl (.ref (a 44)) rfl dX5_canDodge_1 ?_
  refine lv_iload_n hx hb dX5_canDodge_4 rfl (lv_at hl 1 rfl) ?_
  refine z_iald hx hb hK hP 14 0 rfl rfl x1' e_x1 (by omega) rfl dX5_canDodge_5 ?_
  refine lv_if_ne (tgt := 22) hx hb dX5_canDodge_6 (by decide) (fun c_1 => ?_) (fun c_1 => ?_)
  · refine lv_iconst (v := 0) hx hb dX5_canDodge_22 (by decide) ?_
    exact W.zret (v := 0) hx hb hr (by decide) (fun t ht hW => ⟨⟨0, (), rfl, (by first | with_reducible rfl | (simp only [G_can, if_neg c_1]; done) | (simp +decide only [G_can, if_neg c_1]; done) | (simp [G_can, c_1]; done) | (simp +decide [G_can, c_1]; done)), trivial⟩, hS.F ht⟩) hS.2.2 dX5_canDodge_23
  · refine lv_aload_n hx hb dX5_canDodge_9 rfl (lv_at hl 0 rfl) ?_
    refine z_get (ci := 5) (C := RX5) (T := TX5) (N := 26) hx hb hts b_X5_canDodge_wsX50 hown hK hP 0 rfl rfl 20 (by decide) (hts _ k_X5_canDodge_2) rfl (.ref (a 46)) rfl dX5_canDodge_10 ?_
    refine lv_iload_n hx hb dX5_canDodge_13 rfl (lv_at hl 1 rfl) ?_
    refine z_iald hx hb hK hP 16 0 rfl rfl x1' e_x1 (by omega) rfl dX5_canDodge_14 ?_
    refine lv_if_le (tgt := 22) hx hb dX5_canDodge_15 (by decide) (fun c_2 => ?_) (fun c_2 => ?_)
    · refine lv_iconst (v := 0) hx hb dX5_canDodge_22 (by decide) ?_
      exact W.zret (v := 0) hx hb hr (by decide) (fun t ht hW => ⟨⟨0, (), rfl, (by first | with_reducible rfl | (simp only [G_can, if_pos c_1, if_pos c_2]; done) | (simp +decide only [G_can, if_pos c_1, if_pos c_2]; done) | (simp [G_can, c_1, c_2]; done) | (simp +decide [G_can, c_1, c_2]; done)), trivial⟩, hS.F ht⟩) hS.2.2 dX5_canDodge_23
    · refine lv_iconst (v := 1) hx hb dX5_canDodge_18 (by decide) ?_
      refine lv_goto (tgt := 23) hx hb dX5_canDodge_19 (by decide) ?_
      exact W.zret (v := 1) hx hb hr (by decide) (fun t ht hW => ⟨⟨1, (), rfl, (by first | with_reducible rfl | (simp only [G_can, if_pos c_1, if_neg c_2]; done) | (simp +decide only [G_can, if_pos c_1, if_neg c_2]; done) | (simp [G_can, c_1, c_2]; done) | (simp +decide [G_can, c_1, c_2]; done)), trivial⟩, hS.F ht⟩) hS.2.2 dX5_canDodge_23
theorem k_X5_endOf_1 : (Cond.fieldLink RX5 25 "OrbitregisterModel" "state" "[I") ∈ wsX5_endOf := List.mem_of_getElem? (i := 1) rfl
theorem b_X5_endOf_wsX50 : ∀ w ∈ wsX50, w ∈ wsX5_endOf := fun _ h => List.mem_cons_of_mem _ (List.mem_append_right _ h)
theorem k_X5_endOf_3 : (Cond.fieldLink RX5 38 "OrbitregisterModel" "suspended" "[I") ∈ wsX5_endOf := List.mem_of_getElem? (i := 3) rfl
theorem k_X5_endOf_2 : (Cond.fieldLink RX5 35 "OrbitregisterModel" "told" "[I") ∈ wsX5_endOf := List.mem_of_getElem? (i := 2) rfl
set_option maxHeartbeats 4000000 in
set_option maxRecDepth 100000 in
theorem c_X5_endOf (l : Launch) (D : va_G) (cI cJ cZ : ClassId) (a : Nat → Nat) (sz : Nat) (th : Int32) (td : Int32) (nd : Int32) (n : Nat) (ld : A32) (sl : A32) (bd : A32) (pw : A32) (dt : A32) (st : A32) (uc : A32) (sv : A32) (tl : A32) (so : A32) (ag : A32) (ns : Nat) (ss : A32) (rg : A32) (hw : A32) (ax : A32) (fu : A32) (si : A32) (au : A32) (px : A32) (pg : A32) (py : A64) (x1 : Int32) (x1' : Nat) (e_x1 : x1 = nI x1') (h_x1 : x1' < 40) : Met l yX5_endOf wsX5_endOf ({ frames := 1, cells := 0, slots := 0, locals := 22 }) (va_Pc [.ref (a 30), .int x1] (ZP D (zt cI cJ cZ) (wMo cI cJ cZ a th td nd n ld sl bd pw dt st uc sv tl so ag ns ss rg hw ax fu si au px pg py) sz zT)) (va_Qi (fun (r : Int32) (_ : Unit) => r = G_endOf (st x1') (tl x1') (so x1')) (fun _ _ => True) (va_A [] sz)) 0 0 (va_A [] sz) := by
  refine Met.ofW (cc := cX5_endOf) (maxL := 2) (ret := (some .int)) (by decide) rfl ?_
  intro p e s m args below meth c s₁ B hml hv
  obtain ⟨rfl, hsz, hP, hK, hD0, hE⟩ := hv
  have hx := B.exec
  have hb := B.bytes
  have hr := B.returns
  have hts := atoms_spec (ws := wsX5_endOf) B.pre
  have hown : s.vm.findClass RX5 = some m.cls := findClass_of_methodNamed B.named
  have hlocks := B.notSynchronized
  subst hsz
  have hD := hD0
  generalize hAe : va_A [] s.heap.size = A at ⊢
  have hA : ∀ q : Nat, s.heap.size ≤ q → A q := fun q h => by rw [← hAe]; exact Or.inr h
  have hS : va_S A s.heap s.heap [] := va_S.rf
  have hl := lv_entry ([.ref (a 30), .int x1]) (n := 2) (Nat.le_of_ble_eq_true rfl)
  rw [lg_entry_eq]
  generalize (lg_sl ([.ref (a 30), .int x1]) ++ List.replicate (2 - (lg_sl ([.ref (a 30), .int x1])).length) Slot.unset).toArray = ls at hl ⊢
  have hl : lv_has ls 2 [(0, .ref (a 30)), (1, .int x1)] := hl
  have hP : va_P D vwCl (wMo cI cJ cZ a th td nd n ld sl bd pw dt st uc sv tl so ag ns ss rg hw ax fu si au px pg py) s.heap := hP
  refine lv_aload_n hx hb dX5_endOf_0 rfl (lv_at hl 0 rfl) ?_
  refine z_get (ci := 5) (C := RX5) (T := TX5) (N := 26) hx hb hts b_X5_endOf_wsX50 hown hK hP 0 rfl rfl 9 (by decide) (hts _ k_X5_endOf_1) rfl (.ref (a 36)) rfl dX5_endOf_1 ?_
  refine lv_iload_n hx hb dX5_endOf_4 rfl (lv_at hl 1 rfl) ?_
  refine z_iald hx hb hK hP 6 0 rfl rfl x1' e_x1 (by omega) rfl dX5_endOf_5 ?_
  refine lv_iconst (v := 0) hx hb dX5_endOf_6 (by decide) ?_
  refine lv_iconst (v := 1) hx hb dX5_endOf_7 (by decide) ?_
  refine z_ri (va_runS (As := [.int (st x1'), .int 0, .int 1]) (rest := []) ⟨hx, hb, hml, hown, hts⟩ (c_X5_in l D cI cJ cZ a s.heap.size (st x1') 0 1) (va_cwS 3 hts gX5_endOf_X5_in rfl rfl rfl (by decide +kernel) ⟨Nat.le_of_ble_eq_true rfl, Nat.le_of_ble_eq_true rfl⟩) (z_ps hK zP_0 zD_0 zT_b zT_m) rfl rfl hl.1 rfl (lv_room (Nat.le_of_ble_eq_true rfl)) dX5_endOf_8 ⟨Nat.le_of_ble_eq_true rfl, Nat.le_of_ble_eq_true rfl⟩) hP hS hA (fun r_1 _ H locs hr_1 hP hS => ?_)
  subst hr_1
  refine lv_if_eq (tgt := 25) hx hb dX5_endOf_11 (by decide) (fun c_2 => ?_) (fun c_2 => ?_)
  · refine lv_aload_n hx hb dX5_endOf_25 rfl (lv_at hl 0 rfl) ?_
    refine z_get (ci := 5) (C := RX5) (T := TX5) (N := 26) hx hb hts b_X5_endOf_wsX50 hown hK hP 0 rfl rfl 9 (by decide) (hts _ k_X5_endOf_1) rfl (.ref (a 36)) rfl dX5_endOf_26 ?_
    refine lv_iload_n hx hb dX5_endOf_29 rfl (lv_at hl 1 rfl) ?_
    refine z_iald hx hb hK hP 6 0 rfl rfl x1' e_x1 (by omega) rfl dX5_endOf_30 ?_
    refine lv_iconst (v := 3) hx hb dX5_endOf_31 (by decide) ?_
    refine lv_icmp_ne (tgt := 48) hx hb dX5_endOf_32 (by decide) (fun c_3 => ?_) (fun c_3 => ?_)
    · refine lv_iconst (v := (-1)) hx hb dX5_endOf_48 (by decide) ?_
      exact W.iret (v := (-1)) hx hb hr (fun t ht hW => ⟨⟨(-1), (), rfl, (by first | with_reducible rfl | (simp only [G_endOf, if_pos c_2, if_neg c_3]; done) | (simp +decide only [G_endOf, if_pos c_2, if_neg c_3]; done) | (simp [G_endOf, c_2, c_3]; done) | (simp +decide [G_endOf, c_2, c_3]; done)), trivial⟩, hS.F ht⟩) hS.2.2 dX5_endOf_49
    · refine lv_aload_n hx hb dX5_endOf_35 rfl (lv_at hl 0 rfl) ?_
      refine z_get (ci := 5) (C := RX5) (T := TX5) (N := 26) hx hb hts b_X5_endOf_wsX50 hown hK hP 0 rfl rfl 13 (by decide) (hts _ k_X5_endOf_3) rfl (.ref (a 40)) rfl dX5_endOf_36 ?_
      refine lv_iload_n hx hb dX5_endOf_39 rfl (lv_at hl 1 rfl) ?_
      refine z_iald hx hb hK hP 10 0 rfl rfl x1' e_x1 (by omega) rfl dX5_endOf_40 ?_
      refine lv_sipush (v := 300) hx hb dX5_endOf_41 (by decide) ?_
      refine lv_iadd hx hb dX5_endOf_44 ?_
      refine lv_goto (tgt := 49) hx hb dX5_endOf_45 (by decide) ?_
      exact W.iret (v := (so x1') + 300) hx hb hr (fun t ht hW => ⟨⟨(so x1') + 300, (), rfl, (by first | with_reducible rfl | (simp only [G_endOf, if_pos c_2, if_pos c_3]; done) | (simp +decide only [G_endOf, if_pos c_2, if_pos c_3]; done) | (simp [G_endOf, c_2, c_3]; done) | (simp +decide [G_endOf, c_2, c_3]; done)), trivial⟩, hS.F ht⟩) hS.2.2 dX5_endOf_49
  · refine lv_aload_n hx hb dX5_endOf_14 rfl (lv_at hl 0 rfl) ?_
    refine z_get (ci := 5) (C := RX5) (T := TX5) (N := 26) hx hb hts b_X5_endOf_wsX50 hown hK hP 0 rfl rfl 12 (by decide) (hts _ k_X5_endOf_2) rfl (.ref (a 39)) rfl dX5_endOf_15 ?_
    refine lv_iload_n hx hb dX5_endOf_18 rfl (lv_at hl 1 rfl) ?_
    refine z_iald hx hb hK hP 9 0 rfl rfl x1' e_x1 (by omega) rfl dX5_endOf_19 ?_
    refine lv_sipush (v := 700) hx hb dX5_endOf_20 (by decide) ?_
    refine lv_iadd hx hb dX5_endOf_23 ?_
    exact W.iret (v := (tl x1') + 700) hx hb hr (fun t ht hW => ⟨⟨(tl x1') + 700, (), rfl, (by first | with_reducible rfl | (simp only [G_endOf, if_neg c_2]; done) | (simp +decide only [G_endOf, if_neg c_2]; done) | (simp [G_endOf, c_2]; done) | (simp +decide [G_endOf, c_2]; done)), trivial⟩, hS.F ht⟩) hS.2.2 dX5_endOf_24
theorem k_X5_crash_1 : (Cond.fieldLink RX5 50 "OrbitregisterModel" "how" "[I") ∈ wsX5_crash := List.mem_of_getElem? (i := 1) rfl
theorem b_X5_crash_wsX50 : ∀ w ∈ wsX50, w ∈ wsX5_crash := fun _ h => List.mem_cons_of_mem _ (List.mem_append_right _ h)
theorem k_X5_crash_2 : (Cond.fieldLink RX5 65 "OrbitregisterModel" "pieces" "[I") ∈ wsX5_crash := List.mem_of_getElem? (i := 2) rfl
theorem k_X5_crash_3 : (Cond.fieldLink RX5 53 "OrbitregisterModel" "at" "[I") ∈ wsX5_crash := List.mem_of_getElem? (i := 3) rfl
set_option maxHeartbeats 4000000 in
set_option maxRecDepth 100000 in
theorem c_X5_crash (l : Launch) (D : va_G) (cI cJ cZ : ClassId) (a : Nat → Nat) (sz : Nat) (th : Int32) (td : Int32) (nd : Int32) (n : Nat) (ld : A32) (sl : A32) (bd : A32) (pw : A32) (dt : A32) (st : A32) (uc : A32) (sv : A32) (tl : A32) (so : A32) (ag : A32) (ns : Nat) (ss : A32) (rg : A32) (hw : A32) (ax : A32) (fu : A32) (si : A32) (au : A32) (px : A32) (pg : A32) (py : A64) (x1 : Int32) (x1' : Nat) (e_x1 : x1 = nI x1') (h_x1 : x1' < 16) (x2 : Int32) (x2' : Nat) (e_x2 : x2 = nI x2') (h_x2 : x2' < 16) (x3 : Int32) (hn : n ≤ 40) (k : Nat) (hk : ax x1' / 10 = nI k) (hk2 : k < 36) : Met l yX5_crash wsX5_crash ({ frames := 2, cells := 0, slots := 0, locals := 46 }) (va_Pc [.ref (a 30), .int x1, .int x2, .int x3] (ZP D (zt cI cJ cZ) (wMo cI cJ cZ a th td nd n ld sl bd pw dt st uc sv tl so ag ns ss rg hw ax fu si au px pg py) sz zT)) (va_Qi (fun (r : Int32) (_ : Unit) => r = G_all (G_served sv x1 n + G_served (F_susSv sv x1 n) x2 n) x3) (fun _ t => va_P D vwCl (wMo cI cJ cZ a th td nd n ld sl bd pw dt (F_susSt (F_susSt st sv x1 n) (F_susSv sv x1 n) x2 n) uc (F_susSv (F_susSv sv x1 n) x2 n) tl (F_susSo (F_susSo so sv x1 td n) (F_susSv sv x1 n) x2 td n) ag ns ss rg (upd (upd hw x1' 2) x2' 2) ax fu si au (upd px k (px k + 100)) pg py) t.heap) (va_A (wMo cI cJ cZ a th td nd n ld sl bd pw dt st uc sv tl so ag ns ss rg hw ax fu si au px pg py) sz)) 0 0 (va_A (wMo cI cJ cZ a th td nd n ld sl bd pw dt st uc sv tl so ag ns ss rg hw ax fu si au px pg py) sz) := by
  refine Met.ofW (cc := cX5_crash) (maxL := 5) (ret := (some .int)) (by decide) rfl ?_
  intro p e s m args below meth c s₁ B hml hv
  obtain ⟨rfl, hsz, hP, hK, hD0, hE⟩ := hv
  have hx := B.exec
  have hb := B.bytes
  have hr := B.returns
  have hts := atoms_spec (ws := wsX5_crash) B.pre
  have hown : s.vm.findClass RX5 = some m.cls := findClass_of_methodNamed B.named
  have hlocks := B.notSynchronized
  subst hsz
  have hD := hD0.self (sz := s.heap.size)
  generalize hAe : va_A (wMo cI cJ cZ a th td nd n ld sl bd pw dt st uc sv tl so ag ns ss rg hw ax fu si au px pg py) s.heap.size = A at hD ⊢
  have hA : ∀ q : Nat, s.heap.size ≤ q → A q := fun q h => by rw [← hAe]; exact Or.inr h
  have hS : va_S A s.heap s.heap [] := va_S.rf
  have hl := lv_entry ([.ref (a 30), .int x1, .int x2, .int x3]) (n := 5) (Nat.le_of_ble_eq_true rfl)
  rw [lg_entry_eq]
  generalize (lg_sl ([.ref (a 30), .int x1, .int x2, .int x3]) ++ List.replicate (5 - (lg_sl ([.ref (a 30), .int x1, .int x2, .int x3])).length) Slot.unset).toArray = ls at hl ⊢
  have hl : lv_has ls 5 [(0, .ref (a 30)), (1, .int x1), (2, .int x2), (3, .int x3)] := hl
  have hP : va_P D vwCl (wMo cI cJ cZ a th td nd n ld sl bd pw dt st uc sv tl so ag ns ss rg hw ax fu si au px pg py) s.heap := hP
  refine lv_aload_n hx hb dX5_crash_0 rfl (lv_at hl 0 rfl) ?_
  refine z_get (ci := 5) (C := RX5) (T := TX5) (N := 26) hx hb hts b_X5_crash_wsX50 hown hK hP 0 rfl rfl 18 (by decide) (hts _ k_X5_crash_1) rfl (.ref (a 44)) rfl dX5_crash_1 ?_
  refine lv_iload_n hx hb dX5_crash_4 rfl (lv_at hl 1 rfl) ?_
  refine lv_iconst (v := 2) hx hb dX5_crash_5 (by decide) ?_
  refine z_iast hx hb hK hP hD hS 14 0 rfl rfl x1' e_x1 (by omega) rfl dX5_crash_6 (wMo cI cJ cZ a th td nd n ld sl bd pw dt st uc sv tl so ag ns ss rg (upd hw x1' 2) ax fu si au px pg py) rfl (fun H locs hP hD hS => ?_)
  refine lv_aload_n hx hb dX5_crash_7 rfl (lv_at hl 0 rfl) ?_
  refine z_get (ci := 5) (C := RX5) (T := TX5) (N := 26) hx hb hts b_X5_crash_wsX50 hown hK hP 0 rfl rfl 18 (by decide) (hts _ k_X5_crash_1) rfl (.ref (a 44)) rfl dX5_crash_8 ?_
  refine lv_iload_n hx hb dX5_crash_11 rfl (lv_at hl 2 rfl) ?_
  refine lv_iconst (v := 2) hx hb dX5_crash_12 (by decide) ?_
  refine z_iast hx hb hK hP hD hS 14 0 rfl rfl x2' e_x2 (by omega) rfl dX5_crash_13 (wMo cI cJ cZ a th td nd n ld sl bd pw dt st uc sv tl so ag ns ss rg (upd (upd hw x1' 2) x2' 2) ax fu si au px pg py) rfl (fun H locs hP hD hS => ?_)
  refine lv_aload_n hx hb dX5_crash_14 rfl (lv_at hl 0 rfl) ?_
  refine lv_iload_n hx hb dX5_crash_15 rfl (lv_at hl 1 rfl) ?_
  refine z_ci (pre := ([] : va_W)) (wc := (wMo cI cJ cZ a th td nd n ld sl bd pw dt st uc sv tl so ag ns ss rg (upd (upd hw x1' 2) x2' 2) ax fu si au px pg py)) (suf := ([] : va_W)) (w1 := fun _ => (wMo cI cJ cZ a th td nd n ld sl bd pw dt (F_susSt st sv x1 n) uc (F_susSv sv x1 n) tl (F_susSo so sv x1 td n) ag ns ss rg (upd (upd hw x1' 2) x2' 2) ax fu si au px pg py)) (va_runV (As := [.int x1]) (rest := []) ⟨hx, hb, hml, hown, hts⟩ (c_X5_leaves l D cI cJ cZ a H.size th td nd n ld sl bd pw dt st uc sv tl so ag ns ss rg (upd (upd hw x1' 2) x2' 2) ax fu si au px pg py x1 (by first | assumption | omega)) (cwV 1 hts gX5_crash_X5_leaves rfl rfl rfl (by decide +kernel) ⟨Nat.le_of_ble_eq_true rfl, Nat.le_of_ble_eq_true rfl⟩) (z_pv hK hP hD (q0 := 0) (ci := 5) rfl rfl zT_b zT_m) rfl rfl hl.1 rfl (lv_room (Nat.le_of_ble_eq_true rfl)) dX5_crash_16 ⟨Nat.le_of_ble_eq_true rfl, Nat.le_of_ble_eq_true rfl⟩) hP hD hS hA (fun _ => rfl) (fun r_1 _ H locs hr_1 hP hD hS => ?_)
  subst hr_1
  refine lv_aload_n hx hb dX5_crash_19 rfl (lv_at hl 0 rfl) ?_
  refine lv_iload_n hx hb dX5_crash_20 rfl (lv_at hl 2 rfl) ?_
  refine z_ci (pre := ([] : va_W)) (wc := (wMo cI cJ cZ a th td nd n ld sl bd pw dt (F_susSt st sv x1 n) uc (F_susSv sv x1 n) tl (F_susSo so sv x1 td n) ag ns ss rg (upd (upd hw x1' 2) x2' 2) ax fu si au px pg py)) (suf := ([] : va_W)) (w1 := fun _ => (wMo cI cJ cZ a th td nd n ld sl bd pw dt (F_susSt (F_susSt st sv x1 n) (F_susSv sv x1 n) x2 n) uc (F_susSv (F_susSv sv x1 n) x2 n) tl (F_susSo (F_susSo so sv x1 td n) (F_susSv sv x1 n) x2 td n) ag ns ss rg (upd (upd hw x1' 2) x2' 2) ax fu si au px pg py)) (va_runV (As := [.int x2]) (rest := [.int (G_served sv x1 n)]) ⟨hx, hb, hml, hown, hts⟩ (c_X5_leaves l D cI cJ cZ a H.size th td nd n ld sl bd pw dt (F_susSt st sv x1 n) uc (F_susSv sv x1 n) tl (F_susSo so sv x1 td n) ag ns ss rg (upd (upd hw x1' 2) x2' 2) ax fu si au px pg py x2 (by first | assumption | omega)) (cwV 1 hts gX5_crash_X5_leaves rfl rfl rfl (by decide +kernel) ⟨Nat.le_of_ble_eq_true rfl, Nat.le_of_ble_eq_true rfl⟩) (z_pv hK hP hD (q0 := 0) (ci := 5) rfl rfl zT_b zT_m) rfl rfl hl.1 rfl (lv_room (Nat.le_of_ble_eq_true rfl)) dX5_crash_21 ⟨Nat.le_of_ble_eq_true rfl, Nat.le_of_ble_eq_true rfl⟩) hP hD hS hA (fun _ => rfl) (fun r_2 _ H locs hr_2 hP hD hS => ?_)
  subst hr_2
  refine lv_iadd hx hb dX5_crash_24 ?_
  refine lv_istore (lv' := [(4, .int ((G_served sv x1 n) + (G_served (F_susSv sv x1 n) x2 n))), (0, .ref (a 30)), (1, .int x1), (2, .int x2), (3, .int x3)]) hx hb dX5_crash_25 hl (by decide) rfl (fun ls hl => ?_)
  refine lv_aload_n hx hb dX5_crash_27 rfl (lv_at hl 1 rfl) ?_
  refine z_get (ci := 5) (C := RX5) (T := TX5) (N := 26) hx hb hts b_X5_crash_wsX50 hown hK hP 0 rfl rfl 23 (by decide) (hts _ k_X5_crash_2) rfl (.ref (a 49)) rfl dX5_crash_28 ?_
  refine lv_aload_n hx hb dX5_crash_31 rfl (lv_at hl 1 rfl) ?_
  refine z_get (ci := 5) (C := RX5) (T := TX5) (N := 26) hx hb hts b_X5_crash_wsX50 hown hK hP 0 rfl rfl 19 (by decide) (hts _ k_X5_crash_3) rfl (.ref (a 45)) rfl dX5_crash_32 ?_
  refine lv_iload_n hx hb dX5_crash_35 rfl (lv_at hl 2 rfl) ?_
  refine z_iald hx hb hK hP 15 0 rfl rfl x1' e_x1 (by omega) rfl dX5_crash_36 ?_
  refine lv_bipush (v := 10) hx hb dX5_crash_37 (by decide) ?_
  refine lv_idiv hx hb dX5_crash_39 (by decide) ?_
  refine lv_dup2_11 hx hb dX5_crash_40 rfl rfl ?_
  refine z_iald hx hb hK hP 19 0 rfl rfl k hk (by omega) rfl dX5_crash_41 ?_
  refine lv_bipush (v := 100) hx hb dX5_crash_42 (by decide) ?_
  refine lv_iadd hx hb dX5_crash_44 ?_
  refine z_iast hx hb hK hP hD hS 19 0 rfl rfl k hk (by omega) rfl dX5_crash_45 (wMo cI cJ cZ a th td nd n ld sl bd pw dt (F_susSt (F_susSt st sv x1 n) (F_susSv sv x1 n) x2 n) uc (F_susSv (F_susSv sv x1 n) x2 n) tl (F_susSo (F_susSo so sv x1 td n) (F_susSv sv x1 n) x2 td n) ag ns ss rg (upd (upd hw x1' 2) x2' 2) ax fu si au (upd px k ((px k) + 100)) pg py) rfl (fun H locs hP hD hS => ?_)
  refine lv_iload hx hb dX5_crash_46 (lv_at hl 0 rfl) ?_
  refine lv_if_ge (tgt := 55) hx hb dX5_crash_48 (by decide) (fun c_3 => ?_) (fun c_3 => ?_)
  · refine lv_iload_n hx hb dX5_crash_55 rfl (lv_at hl 4 rfl) ?_
    have e_wpx : upd px k (px k + 100) = (upd px k ((px k) + 100)) := by first | with_reducible rfl | (simp only [G_all, if_pos c_3]; done) | (simp +decide only [G_all, if_pos c_3]; done) | (simp [G_all, c_3]; done) | (simp +decide [G_all, c_3]; done)
    have hP : va_P D vwCl (wMo cI cJ cZ a th td nd n ld sl bd pw dt (F_susSt (F_susSt st sv x1 n) (F_susSv sv x1 n) x2 n) uc (F_susSv (F_susSv sv x1 n) x2 n) tl (F_susSo (F_susSo so sv x1 td n) (F_susSv sv x1 n) x2 td n) ag ns ss rg (upd (upd hw x1' 2) x2' 2) ax fu si au (upd px k (px k + 100)) pg py) H := by rw [e_wpx]; exact hP
    exact W.iret (v := x3) hx hb hr (fun t ht hW => ⟨⟨x3, (), rfl, (by first | with_reducible rfl | (simp only [G_all, if_pos c_3]; done) | (simp +decide only [G_all, if_pos c_3]; done) | (simp [G_all, c_3]; done) | (simp +decide [G_all, c_3]; done)), (z_at ht hP)⟩, hS.F ht⟩) hS.2.2 dX5_crash_56
  · refine lv_iconst (v := (-1)) hx hb dX5_crash_51 (by decide) ?_
    refine lv_goto (tgt := 56) hx hb dX5_crash_52 (by decide) ?_
    have e_wpx : upd px k (px k + 100) = (upd px k ((px k) + 100)) := by first | with_reducible rfl | (simp only [G_all, if_neg c_3]; done) | (simp +decide only [G_all, if_neg c_3]; done) | (simp [G_all, c_3]; done) | (simp +decide [G_all, c_3]; done)
    have hP : va_P D vwCl (wMo cI cJ cZ a th td nd n ld sl bd pw dt (F_susSt (F_susSt st sv x1 n) (F_susSv sv x1 n) x2 n) uc (F_susSv (F_susSv sv x1 n) x2 n) tl (F_susSo (F_susSo so sv x1 td n) (F_susSv sv x1 n) x2 td n) ag ns ss rg (upd (upd hw x1' 2) x2' 2) ax fu si au (upd px k (px k + 100)) pg py) H := by rw [e_wpx]; exact hP
    exact W.iret (v := (-1)) hx hb hr (fun t ht hW => ⟨⟨(-1), (), rfl, (by first | with_reducible rfl | (simp only [G_all, if_neg c_3]; done) | (simp +decide only [G_all, if_neg c_3]; done) | (simp [G_all, c_3]; done) | (simp +decide [G_all, c_3]; done)), (z_at ht hP)⟩, hS.F ht⟩) hS.2.2 dX5_crash_56
theorem k_X5_passes_1 : (Cond.fieldLink RX5 117 "OrbitregisterModel" "day" "I") ∈ wsX5_passes := List.mem_of_getElem? (i := 1) rfl
theorem b_X5_passes_wsX50 : ∀ w ∈ wsX50, w ∈ wsX5_passes := fun _ h => List.mem_cons_of_mem _ (List.mem_append_right _ h)
theorem k_X5_passes_2 : (Cond.fieldLink RX5 79 "OrbitregisterModel" "filings" "I") ∈ wsX5_passes := List.mem_of_getElem? (i := 2) rfl
theorem k_X5_passes_7 : (Cond.fieldLink RX5 65 "OrbitregisterModel" "pieces" "[I") ∈ wsX5_passes := List.mem_of_getElem? (i := 7) rfl
theorem k_X5_passes_6 : (Cond.fieldLink RX5 68 "OrbitregisterModel" "gone" "[I") ∈ wsX5_passes := List.mem_of_getElem? (i := 6) rfl
theorem k_X5_passes_3 : (Cond.fieldLink RX5 25 "OrbitregisterModel" "state" "[I") ∈ wsX5_passes := List.mem_of_getElem? (i := 3) rfl
theorem k_X5_passes_5 : (Cond.fieldLink RX5 38 "OrbitregisterModel" "suspended" "[I") ∈ wsX5_passes := List.mem_of_getElem? (i := 5) rfl
theorem k_X5_passes_4 : (Cond.fieldLink RX5 35 "OrbitregisterModel" "told" "[I") ∈ wsX5_passes := List.mem_of_getElem? (i := 4) rfl
set_option maxHeartbeats 4000000 in
set_option maxRecDepth 100000 in
theorem c_X5_passes (l : Launch) (D : va_G) (cI cJ cZ : ClassId) (a : Nat → Nat) (sz : Nat) (th : Int32) (td : Int32) (nd : Int32) (n : Nat) (ld : A32) (sl : A32) (bd : A32) (pw : A32) (dt : A32) (st : A32) (uc : A32) (sv : A32) (tl : A32) (so : A32) (ag : A32) (ns : Nat) (ss : A32) (rg : A32) (hw : A32) (ax : A32) (fu : A32) (si : A32) (au : A32) (px : A32) (pg : A32) (py : A64) (hn : n ≤ 40) : Met l yX5_passes wsX5_passes ({ frames := 1, cells := 0, slots := 0, locals := 22 }) (va_Pc [.ref (a 30)] (ZP D (zt cI cJ cZ) (wMo cI cJ cZ a th td nd n ld sl bd pw dt st uc sv tl so ag ns ss rg hw ax fu si au px pg py) sz zT)) (va_Qv (fun (_ : Unit) => True) (fun _ t => va_P D vwCl (wMo cI cJ cZ a th ((G_pas tl so n (td, st, sv, ag, px, pg)).1) nd n ld sl bd pw dt ((G_pas tl so n (td, st, sv, ag, px, pg)).2.1) uc ((G_pas tl so n (td, st, sv, ag, px, pg)).2.2.1) tl so ((G_pas tl so n (td, st, sv, ag, px, pg)).2.2.2.1) ns ss rg hw ax fu si au ((G_pas tl so n (td, st, sv, ag, px, pg)).2.2.2.2.1) ((G_pas tl so n (td, st, sv, ag, px, pg)).2.2.2.2.2) py) t.heap) (va_A (wMo cI cJ cZ a th td nd n ld sl bd pw dt st uc sv tl so ag ns ss rg hw ax fu si au px pg py) sz)) 0 0 (va_A (wMo cI cJ cZ a th td nd n ld sl bd pw dt st uc sv tl so ag ns ss rg hw ax fu si au px pg py) sz) := by
  refine Met.ofW (cc := cX5_passes) (maxL := 3) (ret := none) (by decide) rfl ?_
  intro p e s m args below meth c s₁ B hml hv
  obtain ⟨rfl, hsz, hP, hK, hD0, hE⟩ := hv
  have hx := B.exec
  have hb := B.bytes
  have hr := B.returns
  have hts := atoms_spec (ws := wsX5_passes) B.pre
  have hown : s.vm.findClass RX5 = some m.cls := findClass_of_methodNamed B.named
  have hlocks := B.notSynchronized
  subst hsz
  have hD := hD0.self (sz := s.heap.size)
  generalize hAe : va_A (wMo cI cJ cZ a th td nd n ld sl bd pw dt st uc sv tl so ag ns ss rg hw ax fu si au px pg py) s.heap.size = A at hD ⊢
  have hA : ∀ q : Nat, s.heap.size ≤ q → A q := fun q h => by rw [← hAe]; exact Or.inr h
  have hS : va_S A s.heap s.heap [] := va_S.rf
  have hl := lv_entry ([.ref (a 30)]) (n := 3) (Nat.le_of_ble_eq_true rfl)
  rw [lg_entry_eq]
  generalize (lg_sl ([.ref (a 30)]) ++ List.replicate (3 - (lg_sl ([.ref (a 30)])).length) Slot.unset).toArray = ls at hl ⊢
  have hl : lv_has ls 3 [(0, .ref (a 30))] := hl
  have hP : va_P D vwCl (wMo cI cJ cZ a th td nd n ld sl bd pw dt st uc sv tl so ag ns ss rg hw ax fu si au px pg py) s.heap := hP
  refine lv_aload_n hx hb dX5_passes_0 rfl (lv_at hl 0 rfl) ?_
  refine lv_dup hx hb dX5_passes_1 rfl ?_
  refine z_get (ci := 5) (C := RX5) (T := TX5) (N := 26) hx hb hts b_X5_passes_wsX50 hown hK hP 0 rfl rfl 1 (by decide) (hts _ k_X5_passes_1) rfl (.int td) rfl dX5_passes_2 ?_
  refine lv_iconst (v := 1) hx hb dX5_passes_5 (by decide) ?_
  refine lv_iadd hx hb dX5_passes_6 ?_
  refine z_put (ci := 5) (C := RX5) (T := TX5) (N := 26) hx hb hts b_X5_passes_wsX50 tyX5 tyX5_ok nmX5 hown hK hP hD hS 0 rfl rfl 1 (by decide) (hts _ k_X5_passes_1) rfl rfl (by decide +kernel) (Nat.le_of_ble_eq_true rfl) dX5_passes_7 (wMo cI cJ cZ a th (td + 1) nd n ld sl bd pw dt st uc sv tl so ag ns ss rg hw ax fu si au px pg py) rfl (fun H locs hP hD hS => ?_)
  refine lv_iconst (v := 0) hx hb dX5_passes_10 (by decide) ?_
  refine lv_istore_n (lv' := [(1, .int 0), (0, .ref (a 30))]) hx hb dX5_passes_11 rfl hl (by decide) rfl (fun ls hl => ?_)
  have e_wst : G_lpSt st tl so (td + 1) 0 = st := by first | rfl | exact nI_0
  have e_wsv : G_lpSv st sv tl so (td + 1) 0 = sv := by first | rfl | exact nI_0
  have e_wag : G_lpAg st ag tl so (td + 1) 0 = ag := by first | rfl | exact nI_0
  have hP : va_P D vwCl (wMo cI cJ cZ a th (td + 1) nd n ld sl bd pw dt (G_lpSt st tl so (td + 1) 0) uc (G_lpSv st sv tl so (td + 1) 0) tl so (G_lpAg st ag tl so (td + 1) 0) ns ss rg hw ax fu si au px pg py) H := by rw [e_wst, e_wsv, e_wag]; exact hP
  have e_l1 : (nI 0) = 0 := by first | rfl | exact nI_0
  have hl : lv_has ls 3 [(1, .int (nI 0)), (0, .ref (a 30))] := by rw [e_l1]; exact lv_sub hl [0, 1] rfl
  refine z_loop (D := D) (A := A) (H0 := s.heap) (N := n) (Wf := fun i => (wMo cI cJ cZ a th (td + 1) nd n ld sl bd pw dt (G_lpSt st tl so (td + 1) i) uc (G_lpSv st sv tl so (td + 1) i) tl so (G_lpAg st ag tl so (td + 1) i) ns ss rg hw ax fu si au px pg py)) (lvf := fun i => [(1, .int (nI i)), (0, .ref (a 30))]) (Inv := fun i => True) 0 (by omega) trivial hP hS hl (fun i hi hinv H locs ls hP hS hl ih => ?_)
  have hP : va_P D vwCl (wMo cI cJ cZ a th (td + 1) nd n ld sl bd pw dt (G_lpSt st tl so (td + 1) i) uc (G_lpSv st sv tl so (td + 1) i) tl so (G_lpAg st ag tl so (td + 1) i) ns ss rg hw ax fu si au px pg py) H := hP
  have hD : va_D A (wMo cI cJ cZ a th (td + 1) nd n ld sl bd pw dt (G_lpSt st tl so (td + 1) i) uc (G_lpSv st sv tl so (td + 1) i) tl so (G_lpAg st ag tl so (td + 1) i) ns ss rg hw ax fu si au px pg py) := zD_congr (w1 := (wMo cI cJ cZ a th (td + 1) nd n ld sl bd pw dt st uc sv tl so ag ns ss rg hw ax fu si au px pg py)) rfl hD
  have hl : lv_has ls 3 [(1, .int (nI i)), (0, .ref (a 30))] := hl
  have hinv : True := hinv
  refine lv_iload_n hx hb dX5_passes_12 rfl (lv_at hl 0 rfl) ?_
  refine lv_aload_n hx hb dX5_passes_13 rfl (lv_at hl 1 rfl) ?_
  refine z_get (ci := 5) (C := RX5) (T := TX5) (N := 26) hx hb hts b_X5_passes_wsX50 hown hK hP 0 rfl rfl 3 (by decide) (hts _ k_X5_passes_2) rfl (.int (nI n)) rfl dX5_passes_14 ?_
  refine lv_icmp_ge (tgt := 99) hx hb dX5_passes_17 (by decide) (fun c_1 => ?_) (fun c_1 => ?_)
  · have f_1 := z_leN (a := n) (b := i) c_1 rfl rfl (by omega) (by omega)
    have f_1n := Nat.not_lt.mpr f_1
    obtain rfl : n = i := by omega
    refine lv_aload_n hx hb dX5_passes_99 rfl (lv_at hl 1 rfl) ?_
    refine z_get (ci := 5) (C := RX5) (T := TX5) (N := 26) hx hb hts b_X5_passes_wsX50 hown hK hP 0 rfl rfl 1 (by decide) (hts _ k_X5_passes_1) rfl (.int (td + 1)) rfl dX5_passes_100 ?_
    refine lv_bipush (v := 50) hx hb dX5_passes_103 (by decide) ?_
    refine lv_irem hx hb dX5_passes_105 (by decide) ?_
    refine lv_if_ne (tgt := 187) hx hb dX5_passes_106 (by decide) (fun c_2 => ?_) (fun c_2 => ?_)
    · have e_wtd : (G_pas tl so n (td, st, sv, ag, px, pg)).1 = td + 1 := by first | with_reducible rfl | (simp only [G_pas, G_dr, F_if, if_pos c_1, if_pos f_1, if_neg f_1n, if_neg c_2]; done) | (simp +decide only [G_pas, G_dr, F_if, f_1, if_pos c_1, if_pos f_1, if_neg f_1n, if_neg c_2]; done) | (simp [G_pas, G_dr, F_if, c_1, f_1, f_1n, c_2, f_1]; done) | (simp +decide [G_pas, G_dr, F_if, c_1, f_1, f_1n, c_2, f_1]; done)
      have e_wst : (G_pas tl so n (td, st, sv, ag, px, pg)).2.1 = G_lpSt st tl so (td + 1) n := by first | with_reducible rfl | (simp only [G_pas, G_dr, F_if, if_pos c_1, if_pos f_1, if_neg f_1n, if_neg c_2]; done) | (simp +decide only [G_pas, G_dr, F_if, f_1, if_pos c_1, if_pos f_1, if_neg f_1n, if_neg c_2]; done) | (simp [G_pas, G_dr, F_if, c_1, f_1, f_1n, c_2, f_1]; done) | (simp +decide [G_pas, G_dr, F_if, c_1, f_1, f_1n, c_2, f_1]; done)
      have e_wsv : (G_pas tl so n (td, st, sv, ag, px, pg)).2.2.1 = G_lpSv st sv tl so (td + 1) n := by first | with_reducible rfl | (simp only [G_pas, G_dr, F_if, if_pos c_1, if_pos f_1, if_neg f_1n, if_neg c_2]; done) | (simp +decide only [G_pas, G_dr, F_if, f_1, if_pos c_1, if_pos f_1, if_neg f_1n, if_neg c_2]; done) | (simp [G_pas, G_dr, F_if, c_1, f_1, f_1n, c_2, f_1]; done) | (simp +decide [G_pas, G_dr, F_if, c_1, f_1, f_1n, c_2, f_1]; done)
      have e_wag : (G_pas tl so n (td, st, sv, ag, px, pg)).2.2.2.1 = G_lpAg st ag tl so (td + 1) n := by first | with_reducible rfl | (simp only [G_pas, G_dr, F_if, if_pos c_1, if_pos f_1, if_neg f_1n, if_neg c_2]; done) | (simp +decide only [G_pas, G_dr, F_if, f_1, if_pos c_1, if_pos f_1, if_neg f_1n, if_neg c_2]; done) | (simp [G_pas, G_dr, F_if, c_1, f_1, f_1n, c_2, f_1]; done) | (simp +decide [G_pas, G_dr, F_if, c_1, f_1, f_1n, c_2, f_1]; done)
      have e_wpx : (G_pas tl so n (td, st, sv, ag, px, pg)).2.2.2.2.1 = px := by first | with_reducible rfl | (simp only [G_pas, G_dr, F_if, if_pos c_1, if_pos f_1, if_neg f_1n, if_neg c_2]; done) | (simp +decide only [G_pas, G_dr, F_if, f_1, if_pos c_1, if_pos f_1, if_neg f_1n, if_neg c_2]; done) | (simp [G_pas, G_dr, F_if, c_1, f_1, f_1n, c_2, f_1]; done) | (simp +decide [G_pas, G_dr, F_if, c_1, f_1, f_1n, c_2, f_1]; done)
      have e_wpg : (G_pas tl so n (td, st, sv, ag, px, pg)).2.2.2.2.2 = pg := by first | with_reducible rfl | (simp only [G_pas, G_dr, F_if, if_pos c_1, if_pos f_1, if_neg f_1n, if_neg c_2]; done) | (simp +decide only [G_pas, G_dr, F_if, f_1, if_pos c_1, if_pos f_1, if_neg f_1n, if_neg c_2]; done) | (simp [G_pas, G_dr, F_if, c_1, f_1, f_1n, c_2, f_1]; done) | (simp +decide [G_pas, G_dr, F_if, c_1, f_1, f_1n, c_2, f_1]; done)
      have hP : va_P D vwCl (wMo cI cJ cZ a th ((G_pas tl so n (td, st, sv, ag, px, pg)).1) nd n ld sl bd pw dt ((G_pas tl so n (td, st, sv, ag, px, pg)).2.1) uc ((G_pas tl so n (td, st, sv, ag, px, pg)).2.2.1) tl so ((G_pas tl so n (td, st, sv, ag, px, pg)).2.2.2.1) ns ss rg hw ax fu si au ((G_pas tl so n (td, st, sv, ag, px, pg)).2.2.2.2.1) ((G_pas tl so n (td, st, sv, ag, px, pg)).2.2.2.2.2) py) H := by rw [e_wtd, e_wst, e_wsv, e_wag, e_wpx, e_wpg]; exact hP
      exact W.vret hx hb hr (fun t ht hW => ⟨⟨(), rfl, trivial, (z_at ht hP)⟩, hS.F ht⟩) hS.2.2 dX5_passes_187
    · refine lv_iconst (v := 0) hx hb dX5_passes_109 (by decide) ?_
      refine lv_istore_n (lv' := [(1, .int 0), (0, .ref (a 30))]) hx hb dX5_passes_110 rfl hl (by decide) rfl (fun ls hl => ?_)
      have e_wpg : G_goes px pg 0 = pg := by first | rfl | exact nI_0
      have hP : va_P D vwCl (wMo cI cJ cZ a th (td + 1) nd n ld sl bd pw dt (G_lpSt st tl so (td + 1) n) uc (G_lpSv st sv tl so (td + 1) n) tl so (G_lpAg st ag tl so (td + 1) n) ns ss rg hw ax fu si au px (G_goes px pg 0) py) H := by rw [e_wpg]; exact hP
      have e_l1 : (nI 0) = 0 := by first | rfl | exact nI_0
      have hl : lv_has ls 3 [(1, .int (nI 0)), (0, .ref (a 30))] := by rw [e_l1]; exact lv_sub hl [0, 1] rfl
      refine z_loop (D := D) (A := A) (H0 := s.heap) (N := 36) (Wf := fun i => (wMo cI cJ cZ a th (td + 1) nd n ld sl bd pw dt (G_lpSt st tl so (td + 1) n) uc (G_lpSv st sv tl so (td + 1) n) tl so (G_lpAg st ag tl so (td + 1) n) ns ss rg hw ax fu si au px (G_goes px pg i) py)) (lvf := fun i => [(1, .int (nI i)), (0, .ref (a 30))]) (Inv := fun i => True) 0 (by omega) trivial hP hS hl (fun i hi hinv H locs ls hP hS hl ih => ?_)
      have hP : va_P D vwCl (wMo cI cJ cZ a th (td + 1) nd n ld sl bd pw dt (G_lpSt st tl so (td + 1) n) uc (G_lpSv st sv tl so (td + 1) n) tl so (G_lpAg st ag tl so (td + 1) n) ns ss rg hw ax fu si au px (G_goes px pg i) py) H := hP
      have hD : va_D A (wMo cI cJ cZ a th (td + 1) nd n ld sl bd pw dt (G_lpSt st tl so (td + 1) n) uc (G_lpSv st sv tl so (td + 1) n) tl so (G_lpAg st ag tl so (td + 1) n) ns ss rg hw ax fu si au px (G_goes px pg i) py) := zD_congr (w1 := (wMo cI cJ cZ a th (td + 1) nd n ld sl bd pw dt (G_lpSt st tl so (td + 1) n) uc (G_lpSv st sv tl so (td + 1) n) tl so (G_lpAg st ag tl so (td + 1) n) ns ss rg hw ax fu si au px pg py)) rfl hD
      have hl : lv_has ls 3 [(1, .int (nI i)), (0, .ref (a 30))] := hl
      have hinv : True := hinv
      refine lv_iload_n hx hb dX5_passes_111 rfl (lv_at hl 0 rfl) ?_
      refine lv_bipush (v := 36) hx hb dX5_passes_112 (by decide) ?_
      refine lv_icmp_ge (tgt := 138) hx hb dX5_passes_114 (by decide) (fun c_3 => ?_) (fun c_3 => ?_)
      · have f_3 := z_leN (a := 36) (b := i) c_3 (by decide) rfl (by omega) (by omega)
        have f_3n := Nat.not_lt.mpr f_3
        obtain rfl : 36 = i := by omega
        refine lv_iconst (v := 0) hx hb dX5_passes_138 (by decide) ?_
        refine lv_istore_n (lv' := [(1, .int 0), (0, .ref (a 30))]) hx hb dX5_passes_139 rfl hl (by decide) rfl (fun ls hl => ?_)
        have e_wpx : G_comes px (G_goes px pg 36) 0 = px := by first | rfl | exact nI_0
        have hP : va_P D vwCl (wMo cI cJ cZ a th (td + 1) nd n ld sl bd pw dt (G_lpSt st tl so (td + 1) n) uc (G_lpSv st sv tl so (td + 1) n) tl so (G_lpAg st ag tl so (td + 1) n) ns ss rg hw ax fu si au (G_comes px (G_goes px pg 36) 0) (G_goes px pg 36) py) H := by rw [e_wpx]; exact hP
        have e_l1 : (nI 0) = 0 := by first | rfl | exact nI_0
        have hl : lv_has ls 3 [(1, .int (nI 0)), (0, .ref (a 30))] := by rw [e_l1]; exact lv_sub hl [0, 1] rfl
        refine z_loop (D := D) (A := A) (H0 := s.heap) (N := 36) (Wf := fun i => (wMo cI cJ cZ a th (td + 1) nd n ld sl bd pw dt (G_lpSt st tl so (td + 1) n) uc (G_lpSv st sv tl so (td + 1) n) tl so (G_lpAg st ag tl so (td + 1) n) ns ss rg hw ax fu si au (G_comes px (G_goes px pg 36) i) (G_goes px pg 36) py)) (lvf := fun i => [(1, .int (nI i)), (0, .ref (a 30))]) (Inv := fun i => True) 0 (by omega) trivial hP hS hl (fun i hi hinv H locs ls hP hS hl ih => ?_)
        have hP : va_P D vwCl (wMo cI cJ cZ a th (td + 1) nd n ld sl bd pw dt (G_lpSt st tl so (td + 1) n) uc (G_lpSv st sv tl so (td + 1) n) tl so (G_lpAg st ag tl so (td + 1) n) ns ss rg hw ax fu si au (G_comes px (G_goes px pg 36) i) (G_goes px pg 36) py) H := hP
        have hD : va_D A (wMo cI cJ cZ a th (td + 1) nd n ld sl bd pw dt (G_lpSt st tl so (td + 1) n) uc (G_lpSv st sv tl so (td + 1) n) tl so (G_lpAg st ag tl so (td + 1) n) ns ss rg hw ax fu si au (G_comes px (G_goes px pg 36) i) (G_goes px pg 36) py) := zD_congr (w1 := (wMo cI cJ cZ a th (td + 1) nd n ld sl bd pw dt (G_lpSt st tl so (td + 1) n) uc (G_lpSv st sv tl so (td + 1) n) tl so (G_lpAg st ag tl so (td + 1) n) ns ss rg hw ax fu si au px (G_goes px pg 36) py)) rfl hD
        have hl : lv_has ls 3 [(1, .int (nI i)), (0, .ref (a 30))] := hl
        have hinv : True := hinv
        refine lv_iload_n hx hb dX5_passes_140 rfl (lv_at hl 0 rfl) ?_
        refine lv_bipush (v := 36) hx hb dX5_passes_141 (by decide) ?_
        refine lv_icmp_ge (tgt := 187) hx hb dX5_passes_143 (by decide) (fun c_4 => ?_) (fun c_4 => ?_)
        · have f_4 := z_leN (a := 36) (b := i) c_4 (by decide) rfl (by omega) (by omega)
          have f_4n := Nat.not_lt.mpr f_4
          obtain rfl : 36 = i := by omega
          have e_wtd : (G_pas tl so n (td, st, sv, ag, px, pg)).1 = td + 1 := by first | with_reducible rfl | (simp only [G_pas, G_dr, F_if, if_pos c_1, if_pos f_1, if_neg f_1n, if_pos c_2, if_pos c_3, if_pos f_3, if_neg f_3n, if_pos c_4, if_pos f_4, if_neg f_4n]; done) | (simp +decide only [G_pas, G_dr, F_if, f_1, f_3, f_4, if_pos c_1, if_pos f_1, if_neg f_1n, if_pos c_2, if_pos c_3, if_pos f_3, if_neg f_3n, if_pos c_4, if_pos f_4, if_neg f_4n]; done) | (simp [G_pas, G_dr, F_if, c_1, f_1, f_1n, c_2, c_3, f_3, f_3n, c_4, f_4, f_4n, f_1, f_3, f_4]; done) | (simp +decide [G_pas, G_dr, F_if, c_1, f_1, f_1n, c_2, c_3, f_3, f_3n, c_4, f_4, f_4n, f_1, f_3, f_4]; done)
          have e_wst : (G_pas tl so n (td, st, sv, ag, px, pg)).2.1 = G_lpSt st tl so (td + 1) n := by first | with_reducible rfl | (simp only [G_pas, G_dr, F_if, if_pos c_1, if_pos f_1, if_neg f_1n, if_pos c_2, if_pos c_3, if_pos f_3, if_neg f_3n, if_pos c_4, if_pos f_4, if_neg f_4n]; done) | (simp +decide only [G_pas, G_dr, F_if, f_1, f_3, f_4, if_pos c_1, if_pos f_1, if_neg f_1n, if_pos c_2, if_pos c_3, if_pos f_3, if_neg f_3n, if_pos c_4, if_pos f_4, if_neg f_4n]; done) | (simp [G_pas, G_dr, F_if, c_1, f_1, f_1n, c_2, c_3, f_3, f_3n, c_4, f_4, f_4n, f_1, f_3, f_4]; done) | (simp +decide [G_pas, G_dr, F_if, c_1, f_1, f_1n, c_2, c_3, f_3, f_3n, c_4, f_4, f_4n, f_1, f_3, f_4]; done)
          have e_wsv : (G_pas tl so n (td, st, sv, ag, px, pg)).2.2.1 = G_lpSv st sv tl so (td + 1) n := by first | with_reducible rfl | (simp only [G_pas, G_dr, F_if, if_pos c_1, if_pos f_1, if_neg f_1n, if_pos c_2, if_pos c_3, if_pos f_3, if_neg f_3n, if_pos c_4, if_pos f_4, if_neg f_4n]; done) | (simp +decide only [G_pas, G_dr, F_if, f_1, f_3, f_4, if_pos c_1, if_pos f_1, if_neg f_1n, if_pos c_2, if_pos c_3, if_pos f_3, if_neg f_3n, if_pos c_4, if_pos f_4, if_neg f_4n]; done) | (simp [G_pas, G_dr, F_if, c_1, f_1, f_1n, c_2, c_3, f_3, f_3n, c_4, f_4, f_4n, f_1, f_3, f_4]; done) | (simp +decide [G_pas, G_dr, F_if, c_1, f_1, f_1n, c_2, c_3, f_3, f_3n, c_4, f_4, f_4n, f_1, f_3, f_4]; done)
          have e_wag : (G_pas tl so n (td, st, sv, ag, px, pg)).2.2.2.1 = G_lpAg st ag tl so (td + 1) n := by first | with_reducible rfl | (simp only [G_pas, G_dr, F_if, if_pos c_1, if_pos f_1, if_neg f_1n, if_pos c_2, if_pos c_3, if_pos f_3, if_neg f_3n, if_pos c_4, if_pos f_4, if_neg f_4n]; done) | (simp +decide only [G_pas, G_dr, F_if, f_1, f_3, f_4, if_pos c_1, if_pos f_1, if_neg f_1n, if_pos c_2, if_pos c_3, if_pos f_3, if_neg f_3n, if_pos c_4, if_pos f_4, if_neg f_4n]; done) | (simp [G_pas, G_dr, F_if, c_1, f_1, f_1n, c_2, c_3, f_3, f_3n, c_4, f_4, f_4n, f_1, f_3, f_4]; done) | (simp +decide [G_pas, G_dr, F_if, c_1, f_1, f_1n, c_2, c_3, f_3, f_3n, c_4, f_4, f_4n, f_1, f_3, f_4]; done)
          have e_wpx : (G_pas tl so n (td, st, sv, ag, px, pg)).2.2.2.2.1 = G_comes px (G_goes px pg 36) 36 := by first | with_reducible rfl | (simp only [G_pas, G_dr, F_if, if_pos c_1, if_pos f_1, if_neg f_1n, if_pos c_2, if_pos c_3, if_pos f_3, if_neg f_3n, if_pos c_4, if_pos f_4, if_neg f_4n]; done) | (simp +decide only [G_pas, G_dr, F_if, f_1, f_3, f_4, if_pos c_1, if_pos f_1, if_neg f_1n, if_pos c_2, if_pos c_3, if_pos f_3, if_neg f_3n, if_pos c_4, if_pos f_4, if_neg f_4n]; done) | (simp [G_pas, G_dr, F_if, c_1, f_1, f_1n, c_2, c_3, f_3, f_3n, c_4, f_4, f_4n, f_1, f_3, f_4]; done) | (simp +decide [G_pas, G_dr, F_if, c_1, f_1, f_1n, c_2, c_3, f_3, f_3n, c_4, f_4, f_4n, f_1, f_3, f_4]; done)
          have e_wpg : (G_pas tl so n (td, st, sv, ag, px, pg)).2.2.2.2.2 = G_goes px pg 36 := by first | with_reducible rfl | (simp only [G_pas, G_dr, F_if, if_pos c_1, if_pos f_1, if_neg f_1n, if_pos c_2, if_pos c_3, if_pos f_3, if_neg f_3n, if_pos c_4, if_pos f_4, if_neg f_4n]; done) | (simp +decide only [G_pas, G_dr, F_if, f_1, f_3, f_4, if_pos c_1, if_pos f_1, if_neg f_1n, if_pos c_2, if_pos c_3, if_pos f_3, if_neg f_3n, if_pos c_4, if_pos f_4, if_neg f_4n]; done) | (simp [G_pas, G_dr, F_if, c_1, f_1, f_1n, c_2, c_3, f_3, f_3n, c_4, f_4, f_4n, f_1, f_3, f_4]; done) | (simp +decide [G_pas, G_dr, F_if, c_1, f_1, f_1n, c_2, c_3, f_3, f_3n, c_4, f_4, f_4n, f_1, f_3, f_4]; done)
          have hP : va_P D vwCl (wMo cI cJ cZ a th ((G_pas tl so n (td, st, sv, ag, px, pg)).1) nd n ld sl bd pw dt ((G_pas tl so n (td, st, sv, ag, px, pg)).2.1) uc ((G_pas tl so n (td, st, sv, ag, px, pg)).2.2.1) tl so ((G_pas tl so n (td, st, sv, ag, px, pg)).2.2.2.1) ns ss rg hw ax fu si au ((G_pas tl so n (td, st, sv, ag, px, pg)).2.2.2.2.1) ((G_pas tl so n (td, st, sv, ag, px, pg)).2.2.2.2.2) py) H := by rw [e_wtd, e_wst, e_wsv, e_wag, e_wpx, e_wpg]; exact hP
          exact W.vret hx hb hr (fun t ht hW => ⟨⟨(), rfl, trivial, (z_at ht hP)⟩, hS.F ht⟩) hS.2.2 dX5_passes_187
        · have f_4 := z_nleN (a := 36) (b := i) c_4 (by decide) rfl (by omega) (by omega)
          have f_4n := Nat.not_le.mpr f_4
          refine lv_aload_n hx hb dX5_passes_146 rfl (lv_at hl 1 rfl) ?_
          refine z_get (ci := 5) (C := RX5) (T := TX5) (N := 26) hx hb hts b_X5_passes_wsX50 hown hK hP 0 rfl rfl 23 (by decide) (hts _ k_X5_passes_7) rfl (.ref (a 49)) rfl dX5_passes_147 ?_
          refine lv_iload_n hx hb dX5_passes_150 rfl (lv_at hl 0 rfl) ?_
          refine lv_dup2_11 hx hb dX5_passes_151 rfl rfl ?_
          refine z_iald hx hb hK hP 19 0 rfl rfl i rfl (by omega) rfl dX5_passes_152 ?_
          refine lv_aload_n hx hb dX5_passes_153 rfl (lv_at hl 1 rfl) ?_
          refine z_get (ci := 5) (C := RX5) (T := TX5) (N := 26) hx hb hts b_X5_passes_wsX50 hown hK hP 0 rfl rfl 24 (by decide) (hts _ k_X5_passes_6) rfl (.ref (a 50)) rfl dX5_passes_154 ?_
          refine lv_iload_n hx hb dX5_passes_157 rfl (lv_at hl 0 rfl) ?_
          refine z_iald hx hb hK hP 20 0 rfl rfl i rfl (by omega) rfl dX5_passes_158 ?_
          refine lv_isub hx hb dX5_passes_159 ?_
          refine z_iast hx hb hK hP hD hS 19 0 rfl rfl i rfl (by omega) rfl dX5_passes_160 (wMo cI cJ cZ a th (td + 1) nd n ld sl bd pw dt (G_lpSt st tl so (td + 1) n) uc (G_lpSv st sv tl so (td + 1) n) tl so (G_lpAg st ag tl so (td + 1) n) ns ss rg hw ax fu si au (upd (G_comes px (G_goes px pg 36) i) i (((G_comes px (G_goes px pg 36) i) i) - ((G_goes px pg 36) i))) (G_goes px pg 36) py) rfl (fun H locs hP hD hS => ?_)
          refine lv_aload_n hx hb dX5_passes_161 rfl (lv_at hl 1 rfl) ?_
          refine z_get (ci := 5) (C := RX5) (T := TX5) (N := 26) hx hb hts b_X5_passes_wsX50 hown hK hP 0 rfl rfl 23 (by decide) (hts _ k_X5_passes_7) rfl (.ref (a 49)) rfl dX5_passes_162 ?_
          refine lv_iload_n hx hb dX5_passes_165 rfl (lv_at hl 0 rfl) ?_
          refine lv_iconst (v := 1) hx hb dX5_passes_166 (by decide) ?_
          refine lv_iadd hx hb dX5_passes_167 ?_
          refine lv_bipush (v := 36) hx hb dX5_passes_168 (by decide) ?_
          refine lv_irem hx hb dX5_passes_170 (by decide) ?_
          refine lv_dup2_11 hx hb dX5_passes_171 rfl rfl ?_
          refine z_iald hx hb hK hP 19 0 rfl rfl ((i + 1) % 36) (z_iremN 36 (z_iadd rfl rfl) (by omega) rfl (by decide) (by decide)) (Nat.mod_lt _ (by decide)) rfl dX5_passes_172 ?_
          refine lv_aload_n hx hb dX5_passes_173 rfl (lv_at hl 1 rfl) ?_
          refine z_get (ci := 5) (C := RX5) (T := TX5) (N := 26) hx hb hts b_X5_passes_wsX50 hown hK hP 0 rfl rfl 24 (by decide) (hts _ k_X5_passes_6) rfl (.ref (a 50)) rfl dX5_passes_174 ?_
          refine lv_iload_n hx hb dX5_passes_177 rfl (lv_at hl 0 rfl) ?_
          refine z_iald hx hb hK hP 20 0 rfl rfl i rfl (by omega) rfl dX5_passes_178 ?_
          refine lv_iadd hx hb dX5_passes_179 ?_
          refine z_iast hx hb hK hP hD hS 19 0 rfl rfl ((i + 1) % 36) (z_iremN 36 (z_iadd rfl rfl) (by omega) rfl (by decide) (by decide)) (Nat.mod_lt _ (by decide)) rfl dX5_passes_180 (wMo cI cJ cZ a th (td + 1) nd n ld sl bd pw dt (G_lpSt st tl so (td + 1) n) uc (G_lpSv st sv tl so (td + 1) n) tl so (G_lpAg st ag tl so (td + 1) n) ns ss rg hw ax fu si au (upd (upd (G_comes px (G_goes px pg 36) i) i (((G_comes px (G_goes px pg 36) i) i) - ((G_goes px pg 36) i))) ((i + 1) % 36) (((upd (G_comes px (G_goes px pg 36) i) i (((G_comes px (G_goes px pg 36) i) i) - ((G_goes px pg 36) i))) ((i + 1) % 36)) + ((G_goes px pg 36) i))) (G_goes px pg 36) py) rfl (fun H locs hP hD hS => ?_)
          refine lv_iinc (v := nI (i + 1)) (lv' := [(1, .int (nI (i + 1))), (0, .ref (a 30))]) hx hb dX5_passes_181 hl (k := 0) rfl (z_inc1 i) (by decide) rfl (fun ls hl => ?_)
          refine lv_goto (tgt := 140) hx hb dX5_passes_184 (by decide) ?_
          have e_wpx : G_comes px (G_goes px pg 36) (i + 1) = (upd (upd (G_comes px (G_goes px pg 36) i) i (((G_comes px (G_goes px pg 36) i) i) - ((G_goes px pg 36) i))) ((i + 1) % 36) (((upd (G_comes px (G_goes px pg 36) i) i (((G_comes px (G_goes px pg 36) i) i) - ((G_goes px pg 36) i))) ((i + 1) % 36)) + ((G_goes px pg 36) i))) := by first | with_reducible rfl | (simp only [G_pas, G_dr, F_if, G_comes, if_pos c_1, if_pos f_1, if_neg f_1n, if_pos c_2, if_pos c_3, if_pos f_3, if_neg f_3n, if_neg c_4, if_pos f_4, if_neg f_4n]; done) | (simp +decide only [G_pas, G_dr, F_if, G_comes, f_1, f_3, f_4, if_pos c_1, if_pos f_1, if_neg f_1n, if_pos c_2, if_pos c_3, if_pos f_3, if_neg f_3n, if_neg c_4, if_pos f_4, if_neg f_4n]; done) | (simp [G_pas, G_dr, F_if, G_comes, c_1, f_1, f_1n, c_2, c_3, f_3, f_3n, c_4, f_4, f_4n, f_1, f_3, f_4]; done) | (simp +decide [G_pas, G_dr, F_if, G_comes, c_1, f_1, f_1n, c_2, c_3, f_3, f_3n, c_4, f_4, f_4n, f_1, f_3, f_4]; done)
          have hP : va_P D vwCl (wMo cI cJ cZ a th (td + 1) nd n ld sl bd pw dt (G_lpSt st tl so (td + 1) n) uc (G_lpSv st sv tl so (td + 1) n) tl so (G_lpAg st ag tl so (td + 1) n) ns ss rg hw ax fu si au (G_comes px (G_goes px pg 36) (i + 1)) (G_goes px pg 36) py) H := by rw [e_wpx]; exact hP
          have hl : lv_has ls 3 [(1, .int (nI (i + 1))), (0, .ref (a 30))] := lv_sub hl [0, 1] rfl
          exact ih H locs ls (by omega) trivial hP hS hl
      · have f_3 := z_nleN (a := 36) (b := i) c_3 (by decide) rfl (by omega) (by omega)
        have f_3n := Nat.not_le.mpr f_3
        refine lv_aload_n hx hb dX5_passes_117 rfl (lv_at hl 1 rfl) ?_
        refine z_get (ci := 5) (C := RX5) (T := TX5) (N := 26) hx hb hts b_X5_passes_wsX50 hown hK hP 0 rfl rfl 24 (by decide) (hts _ k_X5_passes_6) rfl (.ref (a 50)) rfl dX5_passes_118 ?_
        refine lv_iload_n hx hb dX5_passes_121 rfl (lv_at hl 0 rfl) ?_
        refine lv_aload_n hx hb dX5_passes_122 rfl (lv_at hl 1 rfl) ?_
        refine z_get (ci := 5) (C := RX5) (T := TX5) (N := 26) hx hb hts b_X5_passes_wsX50 hown hK hP 0 rfl rfl 23 (by decide) (hts _ k_X5_passes_7) rfl (.ref (a 49)) rfl dX5_passes_123 ?_
        refine lv_iload_n hx hb dX5_passes_126 rfl (lv_at hl 0 rfl) ?_
        refine z_iald hx hb hK hP 19 0 rfl rfl i rfl (by omega) rfl dX5_passes_127 ?_
        refine lv_bipush (v := 10) hx hb dX5_passes_128 (by decide) ?_
        refine lv_idiv hx hb dX5_passes_130 (by decide) ?_
        refine z_iast hx hb hK hP hD hS 20 0 rfl rfl i rfl (by omega) rfl dX5_passes_131 (wMo cI cJ cZ a th (td + 1) nd n ld sl bd pw dt (G_lpSt st tl so (td + 1) n) uc (G_lpSv st sv tl so (td + 1) n) tl so (G_lpAg st ag tl so (td + 1) n) ns ss rg hw ax fu si au px (upd (G_goes px pg i) i ((px i) / 10)) py) rfl (fun H locs hP hD hS => ?_)
        refine lv_iinc (v := nI (i + 1)) (lv' := [(1, .int (nI (i + 1))), (0, .ref (a 30))]) hx hb dX5_passes_132 hl (k := 0) rfl (z_inc1 i) (by decide) rfl (fun ls hl => ?_)
        refine lv_goto (tgt := 111) hx hb dX5_passes_135 (by decide) ?_
        have e_wpg : G_goes px pg (i + 1) = (upd (G_goes px pg i) i ((px i) / 10)) := by first | with_reducible rfl | (simp only [G_pas, G_dr, F_if, G_goes, if_pos c_1, if_pos f_1, if_neg f_1n, if_pos c_2, if_neg c_3, if_pos f_3, if_neg f_3n]; done) | (simp +decide only [G_pas, G_dr, F_if, G_goes, f_1, f_3, if_pos c_1, if_pos f_1, if_neg f_1n, if_pos c_2, if_neg c_3, if_pos f_3, if_neg f_3n]; done) | (simp [G_pas, G_dr, F_if, G_goes, c_1, f_1, f_1n, c_2, c_3, f_3, f_3n, f_1, f_3]; done) | (simp +decide [G_pas, G_dr, F_if, G_goes, c_1, f_1, f_1n, c_2, c_3, f_3, f_3n, f_1, f_3]; done)
        have hP : va_P D vwCl (wMo cI cJ cZ a th (td + 1) nd n ld sl bd pw dt (G_lpSt st tl so (td + 1) n) uc (G_lpSv st sv tl so (td + 1) n) tl so (G_lpAg st ag tl so (td + 1) n) ns ss rg hw ax fu si au px (G_goes px pg (i + 1)) py) H := by rw [e_wpg]; exact hP
        have hl : lv_has ls 3 [(1, .int (nI (i + 1))), (0, .ref (a 30))] := lv_sub hl [0, 1] rfl
        exact ih H locs ls (by omega) trivial hP hS hl
  · have f_1 := z_nleN (a := n) (b := i) c_1 rfl rfl (by omega) (by omega)
    have f_1n := Nat.not_le.mpr f_1
    refine lv_aload_n hx hb dX5_passes_20 rfl (lv_at hl 1 rfl) ?_
    refine z_get (ci := 5) (C := RX5) (T := TX5) (N := 26) hx hb hts b_X5_passes_wsX50 hown hK hP 0 rfl rfl 9 (by decide) (hts _ k_X5_passes_3) rfl (.ref (a 36)) rfl dX5_passes_21 ?_
    refine lv_iload_n hx hb dX5_passes_24 rfl (lv_at hl 0 rfl) ?_
    refine z_iald hx hb hK hP 6 0 rfl rfl i rfl (by omega) rfl dX5_passes_25 ?_
    refine lv_iconst (v := 0) hx hb dX5_passes_26 (by decide) ?_
    refine lv_iconst (v := 1) hx hb dX5_passes_27 (by decide) ?_
    refine z_ri (va_runS (As := [.int ((G_lpSt st tl so (td + 1) i) i), .int 0, .int 1]) (rest := []) ⟨hx, hb, hml, hown, hts⟩ (c_X5_in l D cI cJ cZ a H.size ((G_lpSt st tl so (td + 1) i) i) 0 1) (va_cwS 3 hts gX5_passes_X5_in rfl rfl rfl (by decide +kernel) ⟨Nat.le_of_ble_eq_true rfl, Nat.le_of_ble_eq_true rfl⟩) (z_ps hK zP_0 zD_0 zT_b zT_m) rfl rfl hl.1 rfl (lv_room (Nat.le_of_ble_eq_true rfl)) dX5_passes_28 ⟨Nat.le_of_ble_eq_true rfl, Nat.le_of_ble_eq_true rfl⟩) hP hS hA (fun r_5 _ H locs hr_5 hP hS => ?_)
    subst hr_5
    refine lv_if_eq (tgt := 55) hx hb dX5_passes_31 (by decide) (fun c_6 => ?_) (fun c_6 => ?_)
    · refine lv_iconst (v := 0) hx hb dX5_passes_55 (by decide) ?_
      refine lv_istore_n (lv' := [(2, .int 0), (1, .int (nI i)), (0, .ref (a 30))]) hx hb dX5_passes_56 rfl hl (by decide) rfl (fun ls hl => ?_)
      refine lv_iload_n hx hb dX5_passes_57 rfl (lv_at hl 0 rfl) ?_
      refine lv_if_ne (tgt := 88) hx hb dX5_passes_58 (by decide) (fun c9 => absurd (by decide) c9) (fun _ => ?_)
      refine lv_aload_n hx hb dX5_passes_61 rfl (lv_at hl 2 rfl) ?_
      refine z_get (ci := 5) (C := RX5) (T := TX5) (N := 26) hx hb hts b_X5_passes_wsX50 hown hK hP 0 rfl rfl 9 (by decide) (hts _ k_X5_passes_3) rfl (.ref (a 36)) rfl dX5_passes_62 ?_
      refine lv_iload_n hx hb dX5_passes_65 rfl (lv_at hl 1 rfl) ?_
      refine z_iald hx hb hK hP 6 0 rfl rfl i rfl (by omega) rfl dX5_passes_66 ?_
      refine lv_iconst (v := 3) hx hb dX5_passes_67 (by decide) ?_
      refine lv_icmp_ne (tgt := 93) hx hb dX5_passes_68 (by decide) (fun c_7 => ?_) (fun c_7 => ?_)
      · refine lv_iinc (v := nI (i + 1)) (lv' := [(1, .int (nI (i + 1))), (2, .int 0), (0, .ref (a 30))]) hx hb dX5_passes_93 hl (k := 1) rfl (z_inc1 i) (by decide) rfl (fun ls hl => ?_)
        refine lv_goto (tgt := 12) hx hb dX5_passes_96 (by decide) ?_
        have e_wst : G_lpSt st tl so (td + 1) (i + 1) = G_lpSt st tl so (td + 1) i := by first | with_reducible rfl | (simp only [G_pas, G_dr, F_if, G_lpSt, G_lpSv, G_lpAg, G_old, G_rest, if_neg c_1, if_pos f_1, if_neg f_1n, if_pos c_6, if_neg c_7]; done) | (simp +decide only [G_pas, G_dr, F_if, G_lpSt, G_lpSv, G_lpAg, G_old, G_rest, f_1, if_neg c_1, if_pos f_1, if_neg f_1n, if_pos c_6, if_neg c_7]; done) | (simp [G_pas, G_dr, F_if, G_lpSt, G_lpSv, G_lpAg, G_old, G_rest, c_1, f_1, f_1n, c_6, c_7, f_1]; done) | (simp +decide [G_pas, G_dr, F_if, G_lpSt, G_lpSv, G_lpAg, G_old, G_rest, c_1, f_1, f_1n, c_6, c_7, f_1]; done)
        have e_wsv : G_lpSv st sv tl so (td + 1) (i + 1) = G_lpSv st sv tl so (td + 1) i := by first | with_reducible rfl | (simp only [G_pas, G_dr, F_if, G_lpSt, G_lpSv, G_lpAg, G_old, G_rest, if_neg c_1, if_pos f_1, if_neg f_1n, if_pos c_6, if_neg c_7]; done) | (simp +decide only [G_pas, G_dr, F_if, G_lpSt, G_lpSv, G_lpAg, G_old, G_rest, f_1, if_neg c_1, if_pos f_1, if_neg f_1n, if_pos c_6, if_neg c_7]; done) | (simp [G_pas, G_dr, F_if, G_lpSt, G_lpSv, G_lpAg, G_old, G_rest, c_1, f_1, f_1n, c_6, c_7, f_1]; done) | (simp +decide [G_pas, G_dr, F_if, G_lpSt, G_lpSv, G_lpAg, G_old, G_rest, c_1, f_1, f_1n, c_6, c_7, f_1]; done)
        have e_wag : G_lpAg st ag tl so (td + 1) (i + 1) = G_lpAg st ag tl so (td + 1) i := by first | with_reducible rfl | (simp only [G_pas, G_dr, F_if, G_lpSt, G_lpSv, G_lpAg, G_old, G_rest, if_neg c_1, if_pos f_1, if_neg f_1n, if_pos c_6, if_neg c_7]; done) | (simp +decide only [G_pas, G_dr, F_if, G_lpSt, G_lpSv, G_lpAg, G_old, G_rest, f_1, if_neg c_1, if_pos f_1, if_neg f_1n, if_pos c_6, if_neg c_7]; done) | (simp [G_pas, G_dr, F_if, G_lpSt, G_lpSv, G_lpAg, G_old, G_rest, c_1, f_1, f_1n, c_6, c_7, f_1]; done) | (simp +decide [G_pas, G_dr, F_if, G_lpSt, G_lpSv, G_lpAg, G_old, G_rest, c_1, f_1, f_1n, c_6, c_7, f_1]; done)
        have hP : va_P D vwCl (wMo cI cJ cZ a th (td + 1) nd n ld sl bd pw dt (G_lpSt st tl so (td + 1) (i + 1)) uc (G_lpSv st sv tl so (td + 1) (i + 1)) tl so (G_lpAg st ag tl so (td + 1) (i + 1)) ns ss rg hw ax fu si au px pg py) H := by rw [e_wst, e_wsv, e_wag]; exact hP
        have hl : lv_has ls 3 [(1, .int (nI (i + 1))), (0, .ref (a 30))] := lv_sub hl [0, 2] rfl
        exact ih H locs ls (by omega) trivial hP hS hl
      · refine lv_aload_n hx hb dX5_passes_71 rfl (lv_at hl 2 rfl) ?_
        refine z_get (ci := 5) (C := RX5) (T := TX5) (N := 26) hx hb hts b_X5_passes_wsX50 hown hK hP 0 rfl rfl 1 (by decide) (hts _ k_X5_passes_1) rfl (.int (td + 1)) rfl dX5_passes_72 ?_
        refine lv_aload_n hx hb dX5_passes_75 rfl (lv_at hl 2 rfl) ?_
        refine z_get (ci := 5) (C := RX5) (T := TX5) (N := 26) hx hb hts b_X5_passes_wsX50 hown hK hP 0 rfl rfl 13 (by decide) (hts _ k_X5_passes_5) rfl (.ref (a 40)) rfl dX5_passes_76 ?_
        refine lv_iload_n hx hb dX5_passes_79 rfl (lv_at hl 1 rfl) ?_
        refine z_iald hx hb hK hP 10 0 rfl rfl i rfl (by omega) rfl dX5_passes_80 ?_
        refine lv_sipush (v := 300) hx hb dX5_passes_81 (by decide) ?_
        refine lv_iadd hx hb dX5_passes_84 ?_
        refine lv_icmp_lt (tgt := 93) hx hb dX5_passes_85 (by decide) (fun c_8 => ?_) (fun c_8 => ?_)
        · refine lv_iinc (v := nI (i + 1)) (lv' := [(1, .int (nI (i + 1))), (2, .int 0), (0, .ref (a 30))]) hx hb dX5_passes_93 hl (k := 1) rfl (z_inc1 i) (by decide) rfl (fun ls hl => ?_)
          refine lv_goto (tgt := 12) hx hb dX5_passes_96 (by decide) ?_
          have e_wst : G_lpSt st tl so (td + 1) (i + 1) = G_lpSt st tl so (td + 1) i := by first | with_reducible rfl | (simp only [G_pas, G_dr, F_if, G_lpSt, G_lpSv, G_lpAg, G_old, G_rest, if_neg c_1, if_pos f_1, if_neg f_1n, if_pos c_6, if_pos c_7, if_pos c_8]; done) | (simp +decide only [G_pas, G_dr, F_if, G_lpSt, G_lpSv, G_lpAg, G_old, G_rest, f_1, if_neg c_1, if_pos f_1, if_neg f_1n, if_pos c_6, if_pos c_7, if_pos c_8]; done) | (simp [G_pas, G_dr, F_if, G_lpSt, G_lpSv, G_lpAg, G_old, G_rest, c_1, f_1, f_1n, c_6, c_7, c_8, f_1]; done) | (simp +decide [G_pas, G_dr, F_if, G_lpSt, G_lpSv, G_lpAg, G_old, G_rest, c_1, f_1, f_1n, c_6, c_7, c_8, f_1]; done)
          have e_wsv : G_lpSv st sv tl so (td + 1) (i + 1) = G_lpSv st sv tl so (td + 1) i := by first | with_reducible rfl | (simp only [G_pas, G_dr, F_if, G_lpSt, G_lpSv, G_lpAg, G_old, G_rest, if_neg c_1, if_pos f_1, if_neg f_1n, if_pos c_6, if_pos c_7, if_pos c_8]; done) | (simp +decide only [G_pas, G_dr, F_if, G_lpSt, G_lpSv, G_lpAg, G_old, G_rest, f_1, if_neg c_1, if_pos f_1, if_neg f_1n, if_pos c_6, if_pos c_7, if_pos c_8]; done) | (simp [G_pas, G_dr, F_if, G_lpSt, G_lpSv, G_lpAg, G_old, G_rest, c_1, f_1, f_1n, c_6, c_7, c_8, f_1]; done) | (simp +decide [G_pas, G_dr, F_if, G_lpSt, G_lpSv, G_lpAg, G_old, G_rest, c_1, f_1, f_1n, c_6, c_7, c_8, f_1]; done)
          have e_wag : G_lpAg st ag tl so (td + 1) (i + 1) = G_lpAg st ag tl so (td + 1) i := by first | with_reducible rfl | (simp only [G_pas, G_dr, F_if, G_lpSt, G_lpSv, G_lpAg, G_old, G_rest, if_neg c_1, if_pos f_1, if_neg f_1n, if_pos c_6, if_pos c_7, if_pos c_8]; done) | (simp +decide only [G_pas, G_dr, F_if, G_lpSt, G_lpSv, G_lpAg, G_old, G_rest, f_1, if_neg c_1, if_pos f_1, if_neg f_1n, if_pos c_6, if_pos c_7, if_pos c_8]; done) | (simp [G_pas, G_dr, F_if, G_lpSt, G_lpSv, G_lpAg, G_old, G_rest, c_1, f_1, f_1n, c_6, c_7, c_8, f_1]; done) | (simp +decide [G_pas, G_dr, F_if, G_lpSt, G_lpSv, G_lpAg, G_old, G_rest, c_1, f_1, f_1n, c_6, c_7, c_8, f_1]; done)
          have hP : va_P D vwCl (wMo cI cJ cZ a th (td + 1) nd n ld sl bd pw dt (G_lpSt st tl so (td + 1) (i + 1)) uc (G_lpSv st sv tl so (td + 1) (i + 1)) tl so (G_lpAg st ag tl so (td + 1) (i + 1)) ns ss rg hw ax fu si au px pg py) H := by rw [e_wst, e_wsv, e_wag]; exact hP
          have hl : lv_has ls 3 [(1, .int (nI (i + 1))), (0, .ref (a 30))] := lv_sub hl [0, 2] rfl
          exact ih H locs ls (by omega) trivial hP hS hl
        · refine lv_aload_n hx hb dX5_passes_88 rfl (lv_at hl 2 rfl) ?_
          refine lv_iload_n hx hb dX5_passes_89 rfl (lv_at hl 1 rfl) ?_
          refine z_cv (pre := ([] : va_W)) (wc := (wMo cI cJ cZ a th (td + 1) nd n ld sl bd pw dt (G_lpSt st tl so (td + 1) i) uc (G_lpSv st sv tl so (td + 1) i) tl so (G_lpAg st ag tl so (td + 1) i) ns ss rg hw ax fu si au px pg py)) (suf := ([] : va_W)) (w1 := fun _ => (wMo cI cJ cZ a th (td + 1) nd n ld sl bd pw dt (upd (G_lpSt st tl so (td + 1) i) i 4) uc (upd (G_lpSv st sv tl so (td + 1) i) i (-1)) tl so (G_lapAg (G_lpAg st ag tl so (td + 1) i) i 40) ns ss rg hw ax fu si au px pg py)) (va_runV (As := [.int (nI i)]) (rest := []) ⟨hx, hb, hml, hown, hts⟩ (c_X5_lapse l D cI cJ cZ a H.size th (td + 1) nd n ld sl bd pw dt (G_lpSt st tl so (td + 1) i) uc (G_lpSv st sv tl so (td + 1) i) tl so (G_lpAg st ag tl so (td + 1) i) ns ss rg hw ax fu si au px pg py (nI i) i rfl (by omega)) (cwV 1 hts gX5_passes_X5_lapse rfl rfl rfl (by decide +kernel) ⟨Nat.le_of_ble_eq_true rfl, Nat.le_of_ble_eq_true rfl⟩) (z_pv hK hP hD (q0 := 0) (ci := 5) rfl rfl zT_b zT_m) rfl rfl hl.1 rfl (lv_room (Nat.le_of_ble_eq_true rfl)) dX5_passes_90 ⟨Nat.le_of_ble_eq_true rfl, Nat.le_of_ble_eq_true rfl⟩) hP hD hS hA (fun _ => rfl) (fun _ H locs hr_9 hP hD hS => ?_)
          refine lv_iinc (v := nI (i + 1)) (lv' := [(1, .int (nI (i + 1))), (2, .int 0), (0, .ref (a 30))]) hx hb dX5_passes_93 hl (k := 1) rfl (z_inc1 i) (by decide) rfl (fun ls hl => ?_)
          refine lv_goto (tgt := 12) hx hb dX5_passes_96 (by decide) ?_
          have e_wst : G_lpSt st tl so (td + 1) (i + 1) = upd (G_lpSt st tl so (td + 1) i) i 4 := by first | with_reducible rfl | (simp only [G_pas, G_dr, F_if, G_lpSt, G_lpSv, G_lpAg, G_old, G_rest, if_neg c_1, if_pos f_1, if_neg f_1n, if_pos c_6, if_pos c_7, if_neg c_8]; done) | (simp +decide only [G_pas, G_dr, F_if, G_lpSt, G_lpSv, G_lpAg, G_old, G_rest, f_1, if_neg c_1, if_pos f_1, if_neg f_1n, if_pos c_6, if_pos c_7, if_neg c_8]; done) | (simp [G_pas, G_dr, F_if, G_lpSt, G_lpSv, G_lpAg, G_old, G_rest, c_1, f_1, f_1n, c_6, c_7, c_8, f_1]; done) | (simp +decide [G_pas, G_dr, F_if, G_lpSt, G_lpSv, G_lpAg, G_old, G_rest, c_1, f_1, f_1n, c_6, c_7, c_8, f_1]; done)
          have e_wsv : G_lpSv st sv tl so (td + 1) (i + 1) = upd (G_lpSv st sv tl so (td + 1) i) i (-1) := by first | with_reducible rfl | (simp only [G_pas, G_dr, F_if, G_lpSt, G_lpSv, G_lpAg, G_old, G_rest, if_neg c_1, if_pos f_1, if_neg f_1n, if_pos c_6, if_pos c_7, if_neg c_8]; done) | (simp +decide only [G_pas, G_dr, F_if, G_lpSt, G_lpSv, G_lpAg, G_old, G_rest, f_1, if_neg c_1, if_pos f_1, if_neg f_1n, if_pos c_6, if_pos c_7, if_neg c_8]; done) | (simp [G_pas, G_dr, F_if, G_lpSt, G_lpSv, G_lpAg, G_old, G_rest, c_1, f_1, f_1n, c_6, c_7, c_8, f_1]; done) | (simp +decide [G_pas, G_dr, F_if, G_lpSt, G_lpSv, G_lpAg, G_old, G_rest, c_1, f_1, f_1n, c_6, c_7, c_8, f_1]; done)
          have e_wag : G_lpAg st ag tl so (td + 1) (i + 1) = G_lapAg (G_lpAg st ag tl so (td + 1) i) i 40 := by first | with_reducible rfl | (simp only [G_pas, G_dr, F_if, G_lpSt, G_lpSv, G_lpAg, G_old, G_rest, if_neg c_1, if_pos f_1, if_neg f_1n, if_pos c_6, if_pos c_7, if_neg c_8]; done) | (simp +decide only [G_pas, G_dr, F_if, G_lpSt, G_lpSv, G_lpAg, G_old, G_rest, f_1, if_neg c_1, if_pos f_1, if_neg f_1n, if_pos c_6, if_pos c_7, if_neg c_8]; done) | (simp [G_pas, G_dr, F_if, G_lpSt, G_lpSv, G_lpAg, G_old, G_rest, c_1, f_1, f_1n, c_6, c_7, c_8, f_1]; done) | (simp +decide [G_pas, G_dr, F_if, G_lpSt, G_lpSv, G_lpAg, G_old, G_rest, c_1, f_1, f_1n, c_6, c_7, c_8, f_1]; done)
          have hP : va_P D vwCl (wMo cI cJ cZ a th (td + 1) nd n ld sl bd pw dt (G_lpSt st tl so (td + 1) (i + 1)) uc (G_lpSv st sv tl so (td + 1) (i + 1)) tl so (G_lpAg st ag tl so (td + 1) (i + 1)) ns ss rg hw ax fu si au px pg py) H := by rw [e_wst, e_wsv, e_wag]; exact hP
          have hl : lv_has ls 3 [(1, .int (nI (i + 1))), (0, .ref (a 30))] := lv_sub hl [0, 2] rfl
          exact ih H locs ls (by omega) trivial hP hS hl
    · refine lv_aload_n hx hb dX5_passes_34 rfl (lv_at hl 1 rfl) ?_
      refine z_get (ci := 5) (C := RX5) (T := TX5) (N := 26) hx hb hts b_X5_passes_wsX50 hown hK hP 0 rfl rfl 1 (by decide) (hts _ k_X5_passes_1) rfl (.int (td + 1)) rfl dX5_passes_35 ?_
      refine lv_aload_n hx hb dX5_passes_38 rfl (lv_at hl 1 rfl) ?_
      refine z_get (ci := 5) (C := RX5) (T := TX5) (N := 26) hx hb hts b_X5_passes_wsX50 hown hK hP 0 rfl rfl 12 (by decide) (hts _ k_X5_passes_4) rfl (.ref (a 39)) rfl dX5_passes_39 ?_
      refine lv_iload_n hx hb dX5_passes_42 rfl (lv_at hl 0 rfl) ?_
      refine z_iald hx hb hK hP 9 0 rfl rfl i rfl (by omega) rfl dX5_passes_43 ?_
      refine lv_sipush (v := 700) hx hb dX5_passes_44 (by decide) ?_
      refine lv_iadd hx hb dX5_passes_47 ?_
      refine lv_icmp_lt (tgt := 55) hx hb dX5_passes_48 (by decide) (fun c_10 => ?_) (fun c_10 => ?_)
      · refine lv_iconst (v := 0) hx hb dX5_passes_55 (by decide) ?_
        refine lv_istore_n (lv' := [(2, .int 0), (1, .int (nI i)), (0, .ref (a 30))]) hx hb dX5_passes_56 rfl hl (by decide) rfl (fun ls hl => ?_)
        refine lv_iload_n hx hb dX5_passes_57 rfl (lv_at hl 0 rfl) ?_
        refine lv_if_ne (tgt := 88) hx hb dX5_passes_58 (by decide) (fun c9 => absurd (by decide) c9) (fun _ => ?_)
        refine lv_aload_n hx hb dX5_passes_61 rfl (lv_at hl 2 rfl) ?_
        refine z_get (ci := 5) (C := RX5) (T := TX5) (N := 26) hx hb hts b_X5_passes_wsX50 hown hK hP 0 rfl rfl 9 (by decide) (hts _ k_X5_passes_3) rfl (.ref (a 36)) rfl dX5_passes_62 ?_
        refine lv_iload_n hx hb dX5_passes_65 rfl (lv_at hl 1 rfl) ?_
        refine z_iald hx hb hK hP 6 0 rfl rfl i rfl (by omega) rfl dX5_passes_66 ?_
        refine lv_iconst (v := 3) hx hb dX5_passes_67 (by decide) ?_
        refine lv_icmp_ne (tgt := 93) hx hb dX5_passes_68 (by decide) (fun c_11 => ?_) (fun c_11 => ?_)
        · refine lv_iinc (v := nI (i + 1)) (lv' := [(1, .int (nI (i + 1))), (2, .int 0), (0, .ref (a 30))]) hx hb dX5_passes_93 hl (k := 1) rfl (z_inc1 i) (by decide) rfl (fun ls hl => ?_)
          refine lv_goto (tgt := 12) hx hb dX5_passes_96 (by decide) ?_
          have e_wst : G_lpSt st tl so (td + 1) (i + 1) = G_lpSt st tl so (td + 1) i := by first | with_reducible rfl | (simp only [G_pas, G_dr, F_if, G_lpSt, G_lpSv, G_lpAg, G_old, G_rest, if_neg c_1, if_pos f_1, if_neg f_1n, if_neg c_6, if_pos c_10, if_neg c_11]; done) | (simp +decide only [G_pas, G_dr, F_if, G_lpSt, G_lpSv, G_lpAg, G_old, G_rest, f_1, if_neg c_1, if_pos f_1, if_neg f_1n, if_neg c_6, if_pos c_10, if_neg c_11]; done) | (simp [G_pas, G_dr, F_if, G_lpSt, G_lpSv, G_lpAg, G_old, G_rest, c_1, f_1, f_1n, c_6, c_10, c_11, f_1]; done) | (simp +decide [G_pas, G_dr, F_if, G_lpSt, G_lpSv, G_lpAg, G_old, G_rest, c_1, f_1, f_1n, c_6, c_10, c_11, f_1]; done)
          have e_wsv : G_lpSv st sv tl so (td + 1) (i + 1) = G_lpSv st sv tl so (td + 1) i := by first | with_reducible rfl | (simp only [G_pas, G_dr, F_if, G_lpSt, G_lpSv, G_lpAg, G_old, G_rest, if_neg c_1, if_pos f_1, if_neg f_1n, if_neg c_6, if_pos c_10, if_neg c_11]; done) | (simp +decide only [G_pas, G_dr, F_if, G_lpSt, G_lpSv, G_lpAg, G_old, G_rest, f_1, if_neg c_1, if_pos f_1, if_neg f_1n, if_neg c_6, if_pos c_10, if_neg c_11]; done) | (simp [G_pas, G_dr, F_if, G_lpSt, G_lpSv, G_lpAg, G_old, G_rest, c_1, f_1, f_1n, c_6, c_10, c_11, f_1]; done) | (simp +decide [G_pas, G_dr, F_if, G_lpSt, G_lpSv, G_lpAg, G_old, G_rest, c_1, f_1, f_1n, c_6, c_10, c_11, f_1]; done)
          have e_wag : G_lpAg st ag tl so (td + 1) (i + 1) = G_lpAg st ag tl so (td + 1) i := by first | with_reducible rfl | (simp only [G_pas, G_dr, F_if, G_lpSt, G_lpSv, G_lpAg, G_old, G_rest, if_neg c_1, if_pos f_1, if_neg f_1n, if_neg c_6, if_pos c_10, if_neg c_11]; done) | (simp +decide only [G_pas, G_dr, F_if, G_lpSt, G_lpSv, G_lpAg, G_old, G_rest, f_1, if_neg c_1, if_pos f_1, if_neg f_1n, if_neg c_6, if_pos c_10, if_neg c_11]; done) | (simp [G_pas, G_dr, F_if, G_lpSt, G_lpSv, G_lpAg, G_old, G_rest, c_1, f_1, f_1n, c_6, c_10, c_11, f_1]; done) | (simp +decide [G_pas, G_dr, F_if, G_lpSt, G_lpSv, G_lpAg, G_old, G_rest, c_1, f_1, f_1n, c_6, c_10, c_11, f_1]; done)
          have hP : va_P D vwCl (wMo cI cJ cZ a th (td + 1) nd n ld sl bd pw dt (G_lpSt st tl so (td + 1) (i + 1)) uc (G_lpSv st sv tl so (td + 1) (i + 1)) tl so (G_lpAg st ag tl so (td + 1) (i + 1)) ns ss rg hw ax fu si au px pg py) H := by rw [e_wst, e_wsv, e_wag]; exact hP
          have hl : lv_has ls 3 [(1, .int (nI (i + 1))), (0, .ref (a 30))] := lv_sub hl [0, 2] rfl
          exact ih H locs ls (by omega) trivial hP hS hl
        · refine lv_aload_n hx hb dX5_passes_71 rfl (lv_at hl 2 rfl) ?_
          refine z_get (ci := 5) (C := RX5) (T := TX5) (N := 26) hx hb hts b_X5_passes_wsX50 hown hK hP 0 rfl rfl 1 (by decide) (hts _ k_X5_passes_1) rfl (.int (td + 1)) rfl dX5_passes_72 ?_
          refine lv_aload_n hx hb dX5_passes_75 rfl (lv_at hl 2 rfl) ?_
          refine z_get (ci := 5) (C := RX5) (T := TX5) (N := 26) hx hb hts b_X5_passes_wsX50 hown hK hP 0 rfl rfl 13 (by decide) (hts _ k_X5_passes_5) rfl (.ref (a 40)) rfl dX5_passes_76 ?_
          refine lv_iload_n hx hb dX5_passes_79 rfl (lv_at hl 1 rfl) ?_
          refine z_iald hx hb hK hP 10 0 rfl rfl i rfl (by omega) rfl dX5_passes_80 ?_
          refine lv_sipush (v := 300) hx hb dX5_passes_81 (by decide) ?_
          refine lv_iadd hx hb dX5_passes_84 ?_
          refine lv_icmp_lt (tgt := 93) hx hb dX5_passes_85 (by decide) (fun c_12 => ?_) (fun c_12 => ?_)
          · refine lv_iinc (v := nI (i + 1)) (lv' := [(1, .int (nI (i + 1))), (2, .int 0), (0, .ref (a 30))]) hx hb dX5_passes_93 hl (k := 1) rfl (z_inc1 i) (by decide) rfl (fun ls hl => ?_)
            refine lv_goto (tgt := 12) hx hb dX5_passes_96 (by decide) ?_
            have e_wst : G_lpSt st tl so (td + 1) (i + 1) = G_lpSt st tl so (td + 1) i := by first | with_reducible rfl | (simp only [G_pas, G_dr, F_if, G_lpSt, G_lpSv, G_lpAg, G_old, G_rest, if_neg c_1, if_pos f_1, if_neg f_1n, if_neg c_6, if_pos c_10, if_pos c_11, if_pos c_12]; done) | (simp +decide only [G_pas, G_dr, F_if, G_lpSt, G_lpSv, G_lpAg, G_old, G_rest, f_1, if_neg c_1, if_pos f_1, if_neg f_1n, if_neg c_6, if_pos c_10, if_pos c_11, if_pos c_12]; done) | (simp [G_pas, G_dr, F_if, G_lpSt, G_lpSv, G_lpAg, G_old, G_rest, c_1, f_1, f_1n, c_6, c_10, c_11, c_12, f_1]; done) | (simp +decide [G_pas, G_dr, F_if, G_lpSt, G_lpSv, G_lpAg, G_old, G_rest, c_1, f_1, f_1n, c_6, c_10, c_11, c_12, f_1]; done)
            have e_wsv : G_lpSv st sv tl so (td + 1) (i + 1) = G_lpSv st sv tl so (td + 1) i := by first | with_reducible rfl | (simp only [G_pas, G_dr, F_if, G_lpSt, G_lpSv, G_lpAg, G_old, G_rest, if_neg c_1, if_pos f_1, if_neg f_1n, if_neg c_6, if_pos c_10, if_pos c_11, if_pos c_12]; done) | (simp +decide only [G_pas, G_dr, F_if, G_lpSt, G_lpSv, G_lpAg, G_old, G_rest, f_1, if_neg c_1, if_pos f_1, if_neg f_1n, if_neg c_6, if_pos c_10, if_pos c_11, if_pos c_12]; done) | (simp [G_pas, G_dr, F_if, G_lpSt, G_lpSv, G_lpAg, G_old, G_rest, c_1, f_1, f_1n, c_6, c_10, c_11, c_12, f_1]; done) | (simp +decide [G_pas, G_dr, F_if, G_lpSt, G_lpSv, G_lpAg, G_old, G_rest, c_1, f_1, f_1n, c_6, c_10, c_11, c_12, f_1]; done)
            have e_wag : G_lpAg st ag tl so (td + 1) (i + 1) = G_lpAg st ag tl so (td + 1) i := by first | with_reducible rfl | (simp only [G_pas, G_dr, F_if, G_lpSt, G_lpSv, G_lpAg, G_old, G_rest, if_neg c_1, if_pos f_1, if_neg f_1n, if_neg c_6, if_pos c_10, if_pos c_11, if_pos c_12]; done) | (simp +decide only [G_pas, G_dr, F_if, G_lpSt, G_lpSv, G_lpAg, G_old, G_rest, f_1, if_neg c_1, if_pos f_1, if_neg f_1n, if_neg c_6, if_pos c_10, if_pos c_11, if_pos c_12]; done) | (simp [G_pas, G_dr, F_if, G_lpSt, G_lpSv, G_lpAg, G_old, G_rest, c_1, f_1, f_1n, c_6, c_10, c_11, c_12, f_1]; done) | (simp +decide [G_pas, G_dr, F_if, G_lpSt, G_lpSv, G_lpAg, G_old, G_rest, c_1, f_1, f_1n, c_6, c_10, c_11, c_12, f_1]; done)
            have hP : va_P D vwCl (wMo cI cJ cZ a th (td + 1) nd n ld sl bd pw dt (G_lpSt st tl so (td + 1) (i + 1)) uc (G_lpSv st sv tl so (td + 1) (i + 1)) tl so (G_lpAg st ag tl so (td + 1) (i + 1)) ns ss rg hw ax fu si au px pg py) H := by rw [e_wst, e_wsv, e_wag]; exact hP
            have hl : lv_has ls 3 [(1, .int (nI (i + 1))), (0, .ref (a 30))] := lv_sub hl [0, 2] rfl
            exact ih H locs ls (by omega) trivial hP hS hl
          · refine lv_aload_n hx hb dX5_passes_88 rfl (lv_at hl 2 rfl) ?_
            refine lv_iload_n hx hb dX5_passes_89 rfl (lv_at hl 1 rfl) ?_
            refine z_cv (pre := ([] : va_W)) (wc := (wMo cI cJ cZ a th (td + 1) nd n ld sl bd pw dt (G_lpSt st tl so (td + 1) i) uc (G_lpSv st sv tl so (td + 1) i) tl so (G_lpAg st ag tl so (td + 1) i) ns ss rg hw ax fu si au px pg py)) (suf := ([] : va_W)) (w1 := fun _ => (wMo cI cJ cZ a th (td + 1) nd n ld sl bd pw dt (upd (G_lpSt st tl so (td + 1) i) i 4) uc (upd (G_lpSv st sv tl so (td + 1) i) i (-1)) tl so (G_lapAg (G_lpAg st ag tl so (td + 1) i) i 40) ns ss rg hw ax fu si au px pg py)) (va_runV (As := [.int (nI i)]) (rest := []) ⟨hx, hb, hml, hown, hts⟩ (c_X5_lapse l D cI cJ cZ a H.size th (td + 1) nd n ld sl bd pw dt (G_lpSt st tl so (td + 1) i) uc (G_lpSv st sv tl so (td + 1) i) tl so (G_lpAg st ag tl so (td + 1) i) ns ss rg hw ax fu si au px pg py (nI i) i rfl (by omega)) (cwV 1 hts gX5_passes_X5_lapse rfl rfl rfl (by decide +kernel) ⟨Nat.le_of_ble_eq_true rfl, Nat.le_of_ble_eq_true rfl⟩) (z_pv hK hP hD (q0 := 0) (ci := 5) rfl rfl zT_b zT_m) rfl rfl hl.1 rfl (lv_room (Nat.le_of_ble_eq_true rfl)) dX5_passes_90 ⟨Nat.le_of_ble_eq_true rfl, Nat.le_of_ble_eq_true rfl⟩) hP hD hS hA (fun _ => rfl) (fun _ H locs hr_13 hP hD hS => ?_)
            refine lv_iinc (v := nI (i + 1)) (lv' := [(1, .int (nI (i + 1))), (2, .int 0), (0, .ref (a 30))]) hx hb dX5_passes_93 hl (k := 1) rfl (z_inc1 i) (by decide) rfl (fun ls hl => ?_)
            refine lv_goto (tgt := 12) hx hb dX5_passes_96 (by decide) ?_
            have e_wst : G_lpSt st tl so (td + 1) (i + 1) = upd (G_lpSt st tl so (td + 1) i) i 4 := by first | with_reducible rfl | (simp only [G_pas, G_dr, F_if, G_lpSt, G_lpSv, G_lpAg, G_old, G_rest, if_neg c_1, if_pos f_1, if_neg f_1n, if_neg c_6, if_pos c_10, if_pos c_11, if_neg c_12]; done) | (simp +decide only [G_pas, G_dr, F_if, G_lpSt, G_lpSv, G_lpAg, G_old, G_rest, f_1, if_neg c_1, if_pos f_1, if_neg f_1n, if_neg c_6, if_pos c_10, if_pos c_11, if_neg c_12]; done) | (simp [G_pas, G_dr, F_if, G_lpSt, G_lpSv, G_lpAg, G_old, G_rest, c_1, f_1, f_1n, c_6, c_10, c_11, c_12, f_1]; done) | (simp +decide [G_pas, G_dr, F_if, G_lpSt, G_lpSv, G_lpAg, G_old, G_rest, c_1, f_1, f_1n, c_6, c_10, c_11, c_12, f_1]; done)
            have e_wsv : G_lpSv st sv tl so (td + 1) (i + 1) = upd (G_lpSv st sv tl so (td + 1) i) i (-1) := by first | with_reducible rfl | (simp only [G_pas, G_dr, F_if, G_lpSt, G_lpSv, G_lpAg, G_old, G_rest, if_neg c_1, if_pos f_1, if_neg f_1n, if_neg c_6, if_pos c_10, if_pos c_11, if_neg c_12]; done) | (simp +decide only [G_pas, G_dr, F_if, G_lpSt, G_lpSv, G_lpAg, G_old, G_rest, f_1, if_neg c_1, if_pos f_1, if_neg f_1n, if_neg c_6, if_pos c_10, if_pos c_11, if_neg c_12]; done) | (simp [G_pas, G_dr, F_if, G_lpSt, G_lpSv, G_lpAg, G_old, G_rest, c_1, f_1, f_1n, c_6, c_10, c_11, c_12, f_1]; done) | (simp +decide [G_pas, G_dr, F_if, G_lpSt, G_lpSv, G_lpAg, G_old, G_rest, c_1, f_1, f_1n, c_6, c_10, c_11, c_12, f_1]; done)
            have e_wag : G_lpAg st ag tl so (td + 1) (i + 1) = G_lapAg (G_lpAg st ag tl so (td + 1) i) i 40 := by first | with_reducible rfl | (simp only [G_pas, G_dr, F_if, G_lpSt, G_lpSv, G_lpAg, G_old, G_rest, if_neg c_1, if_pos f_1, if_neg f_1n, if_neg c_6, if_pos c_10, if_pos c_11, if_neg c_12]; done) | (simp +decide only [G_pas, G_dr, F_if, G_lpSt, G_lpSv, G_lpAg, G_old, G_rest, f_1, if_neg c_1, if_pos f_1, if_neg f_1n, if_neg c_6, if_pos c_10, if_pos c_11, if_neg c_12]; done) | (simp [G_pas, G_dr, F_if, G_lpSt, G_lpSv, G_lpAg, G_old, G_rest, c_1, f_1, f_1n, c_6, c_10, c_11, c_12, f_1]; done) | (simp +decide [G_pas, G_dr, F_if, G_lpSt, G_lpSv, G_lpAg, G_old, G_rest, c_1, f_1, f_1n, c_6, c_10, c_11, c_12, f_1]; done)
            have hP : va_P D vwCl (wMo cI cJ cZ a th (td + 1) nd n ld sl bd pw dt (G_lpSt st tl so (td + 1) (i + 1)) uc (G_lpSv st sv tl so (td + 1) (i + 1)) tl so (G_lpAg st ag tl so (td + 1) (i + 1)) ns ss rg hw ax fu si au px pg py) H := by rw [e_wst, e_wsv, e_wag]; exact hP
            have hl : lv_has ls 3 [(1, .int (nI (i + 1))), (0, .ref (a 30))] := lv_sub hl [0, 2] rfl
            exact ih H locs ls (by omega) trivial hP hS hl
      · refine lv_iconst (v := 1) hx hb dX5_passes_51 (by decide) ?_
        refine lv_goto (tgt := 56) hx hb dX5_passes_52 (by decide) ?_
        refine lv_istore_n (lv' := [(2, .int 1), (1, .int (nI i)), (0, .ref (a 30))]) hx hb dX5_passes_56 rfl hl (by decide) rfl (fun ls hl => ?_)
        refine lv_iload_n hx hb dX5_passes_57 rfl (lv_at hl 0 rfl) ?_
        refine lv_if_ne (tgt := 88) hx hb dX5_passes_58 (by decide) (fun _ => ?_) (fun c9 => absurd c9 (by decide))
        refine lv_aload_n hx hb dX5_passes_88 rfl (lv_at hl 2 rfl) ?_
        refine lv_iload_n hx hb dX5_passes_89 rfl (lv_at hl 1 rfl) ?_
        refine z_cv (pre := ([] : va_W)) (wc := (wMo cI cJ cZ a th (td + 1) nd n ld sl bd pw dt (G_lpSt st tl so (td + 1) i) uc (G_lpSv st sv tl so (td + 1) i) tl so (G_lpAg st ag tl so (td + 1) i) ns ss rg hw ax fu si au px pg py)) (suf := ([] : va_W)) (w1 := fun _ => (wMo cI cJ cZ a th (td + 1) nd n ld sl bd pw dt (upd (G_lpSt st tl so (td + 1) i) i 4) uc (upd (G_lpSv st sv tl so (td + 1) i) i (-1)) tl so (G_lapAg (G_lpAg st ag tl so (td + 1) i) i 40) ns ss rg hw ax fu si au px pg py)) (va_runV (As := [.int (nI i)]) (rest := []) ⟨hx, hb, hml, hown, hts⟩ (c_X5_lapse l D cI cJ cZ a H.size th (td + 1) nd n ld sl bd pw dt (G_lpSt st tl so (td + 1) i) uc (G_lpSv st sv tl so (td + 1) i) tl so (G_lpAg st ag tl so (td + 1) i) ns ss rg hw ax fu si au px pg py (nI i) i rfl (by omega)) (cwV 1 hts gX5_passes_X5_lapse rfl rfl rfl (by decide +kernel) ⟨Nat.le_of_ble_eq_true rfl, Nat.le_of_ble_eq_true rfl⟩) (z_pv hK hP hD (q0 := 0) (ci := 5) rfl rfl zT_b zT_m) rfl rfl hl.1 rfl (lv_room (Nat.le_of_ble_eq_true rfl)) dX5_passes_90 ⟨Nat.le_of_ble_eq_true rfl, Nat.le_of_ble_eq_true rfl⟩) hP hD hS hA (fun _ => rfl) (fun _ H locs hr_14 hP hD hS => ?_)
        refine lv_iinc (v := nI (i + 1)) (lv' := [(1, .int (nI (i + 1))), (2, .int 1), (0, .ref (a 30))]) hx hb dX5_passes_93 hl (k := 1) rfl (z_inc1 i) (by decide) rfl (fun ls hl => ?_)
        refine lv_goto (tgt := 12) hx hb dX5_passes_96 (by decide) ?_
        have e_wst : G_lpSt st tl so (td + 1) (i + 1) = upd (G_lpSt st tl so (td + 1) i) i 4 := by first | with_reducible rfl | (simp only [G_pas, G_dr, F_if, G_lpSt, G_lpSv, G_lpAg, G_old, G_rest, if_neg c_1, if_pos f_1, if_neg f_1n, if_neg c_6, if_neg c_10]; done) | (simp +decide only [G_pas, G_dr, F_if, G_lpSt, G_lpSv, G_lpAg, G_old, G_rest, f_1, if_neg c_1, if_pos f_1, if_neg f_1n, if_neg c_6, if_neg c_10]; done) | (simp [G_pas, G_dr, F_if, G_lpSt, G_lpSv, G_lpAg, G_old, G_rest, c_1, f_1, f_1n, c_6, c_10, f_1]; done) | (simp +decide [G_pas, G_dr, F_if, G_lpSt, G_lpSv, G_lpAg, G_old, G_rest, c_1, f_1, f_1n, c_6, c_10, f_1]; done)
        have e_wsv : G_lpSv st sv tl so (td + 1) (i + 1) = upd (G_lpSv st sv tl so (td + 1) i) i (-1) := by first | with_reducible rfl | (simp only [G_pas, G_dr, F_if, G_lpSt, G_lpSv, G_lpAg, G_old, G_rest, if_neg c_1, if_pos f_1, if_neg f_1n, if_neg c_6, if_neg c_10]; done) | (simp +decide only [G_pas, G_dr, F_if, G_lpSt, G_lpSv, G_lpAg, G_old, G_rest, f_1, if_neg c_1, if_pos f_1, if_neg f_1n, if_neg c_6, if_neg c_10]; done) | (simp [G_pas, G_dr, F_if, G_lpSt, G_lpSv, G_lpAg, G_old, G_rest, c_1, f_1, f_1n, c_6, c_10, f_1]; done) | (simp +decide [G_pas, G_dr, F_if, G_lpSt, G_lpSv, G_lpAg, G_old, G_rest, c_1, f_1, f_1n, c_6, c_10, f_1]; done)
        have e_wag : G_lpAg st ag tl so (td + 1) (i + 1) = G_lapAg (G_lpAg st ag tl so (td + 1) i) i 40 := by first | with_reducible rfl | (simp only [G_pas, G_dr, F_if, G_lpSt, G_lpSv, G_lpAg, G_old, G_rest, if_neg c_1, if_pos f_1, if_neg f_1n, if_neg c_6, if_neg c_10]; done) | (simp +decide only [G_pas, G_dr, F_if, G_lpSt, G_lpSv, G_lpAg, G_old, G_rest, f_1, if_neg c_1, if_pos f_1, if_neg f_1n, if_neg c_6, if_neg c_10]; done) | (simp [G_pas, G_dr, F_if, G_lpSt, G_lpSv, G_lpAg, G_old, G_rest, c_1, f_1, f_1n, c_6, c_10, f_1]; done) | (simp +decide [G_pas, G_dr, F_if, G_lpSt, G_lpSv, G_lpAg, G_old, G_rest, c_1, f_1, f_1n, c_6, c_10, f_1]; done)
        have hP : va_P D vwCl (wMo cI cJ cZ a th (td + 1) nd n ld sl bd pw dt (G_lpSt st tl so (td + 1) (i + 1)) uc (G_lpSv st sv tl so (td + 1) (i + 1)) tl so (G_lpAg st ag tl so (td + 1) (i + 1)) ns ss rg hw ax fu si au px pg py) H := by rw [e_wst, e_wsv, e_wag]; exact hP
        have hl : lv_has ls 3 [(1, .int (nI (i + 1))), (0, .ref (a 30))] := lv_sub hl [0, 2] rfl
        exact ih H locs ls (by omega) trivial hP hS hl
