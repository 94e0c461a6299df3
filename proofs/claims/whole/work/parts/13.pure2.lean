/-! numbers in a range, as both classes ask for it; which exception an answer is -/
def F_in (v lo hi : Int32) : Int32 := if v < lo then 0 else if hi < v then 0 else 1
theorem F_in_0a {x lo hi : Int32} (h : x < lo) : F_in x lo hi = 0 := by unfold F_in; rw [if_pos h]
theorem F_in_0b {x lo hi : Int32} (h : hi < x) : F_in x lo hi = 0 := by unfold F_in; split; rfl; rfl
theorem F_in_1 {x lo hi : Int32} (h : ¬ x < lo) (h2 : ¬ hi < x) : ¬ F_in x lo hi = 0 := by unfold F_in; rw [if_neg h, if_neg h2]; decide
theorem z_lt (a b : Int32) : a < b ↔ a.toInt < b.toInt := Int32.lt_iff_toInt_lt
theorem z_le (a b : Int32) : a ≤ b ↔ a.toInt ≤ b.toInt := Int32.le_iff_toInt_le
theorem z_lts {x a b : Int32} (hab : b.toInt = a.toInt + 1) : ¬ x < b ↔ a < x := by rw [z_lt, z_lt]; omega
theorem z_nle {x y : Int32} : ¬ x ≤ y ↔ y < x := by rw [z_lt, z_le]; omega
theorem z_nlt {x y : Int32} : ¬ x < y ↔ y ≤ x := by rw [z_lt, z_le]; omega
theorem z_cnt1 {n : Nat} (h : n ≤ 40) : (nI n).toInt = (nI n - 1).toInt + 1 := by
  rw [nI_toInt (by omega)]
  have : ∀ k, k ≤ 40 → (nI k - 1).toInt = (k : Int) - 1 := by decide +kernel
  rw [this n h]; omega
abbrev ix (x : Int32) : Nat := x.toNatClampNeg
theorem ix_nI {n : Nat} (h : n < 2 ^ 31) : ix (nI n) = n := nI_clamp h
theorem F_in_nat {x hi : Int32} (N : Nat) (h : ¬ F_in x 0 hi = 0) (hN : hi.toInt < N) : x = nI (ix x) ∧ ix x < N := by
  have h1 : ¬ x < 0 := fun q => h (F_in_0a q)
  have h2 : ¬ hi < x := fun q => h (F_in_0b q)
  obtain ⟨j, hj, rfl⟩ := nI_of h1
  rw [z_lt, nI_toInt hj] at h2
  rw [ix_nI hj]
  exact ⟨rfl, by omega⟩
theorem F_in_ix {x : Int32} {n : Nat} (h : ¬ F_in x 0 (nI n - 1) = 0) (hn : n ≤ 40) : x = nI (ix x) ∧ ix x < n := by
  refine F_in_nat n h ?_
  have := z_cnt1 hn
  rw [nI_toInt (by omega)] at this
  omega
def zER (X1 X2 X3 : String) (er : Nat) (E : String) : Prop := (er = 1 ∧ E = X1) ∨ (er = 2 ∧ E = X2) ∨ (er = 3 ∧ E = X3)
theorem z_er1 {X1 X2 X3 : String} {er : Nat} (h : er = 1) : zER X1 X2 X3 er X1 := Or.inl ⟨h, rfl⟩
theorem z_er2 {X1 X2 X3 : String} {er : Nat} (h : er = 2) : zER X1 X2 X3 er X2 := Or.inr (Or.inl ⟨h, rfl⟩)
theorem z_er3 {X1 X2 X3 : String} {er : Nat} (h : er = 3) : zER X1 X2 X3 er X3 := Or.inr (Or.inr ⟨h, rfl⟩)
theorem z_Fx {A : Nat → Prop} {s t : State} {H : Heap} {locs : List Loc} (hS : va_S A s.heap H locs) (h1 : H.size ≤ t.heap.size) (h2 : ∀ q : Nat, q < H.size → t.heap[q]? = H[q]?) : va_F A s t :=
  ⟨Nat.le_trans hS.1 h1, fun q h3 h4 => (h2 q (Nat.lt_of_lt_of_le h3 hS.1)).trans (hS.2.1 q h3 h4)⟩
theorem z_keepX {D : va_G} {cl : List vw_C} {ws : va_W} {H H1 : Heap} (hP : va_P D cl ws H) (h1 : H.size ≤ H1.size) (h2 : ∀ q : Nat, q < H.size → H1[q]? = H[q]?) : va_P D cl ws H1 := hP.kept fun k q hk => h2 q.1 (hP k q hk).lt
/-! which exception: by the number in the list of the method -/
def E_file (x1 x2 x3 x4 : Int32) (n : Nat) : Nat := if F_in x1 0 7 = 0 then 1 else if F_in x2 0 359 = 0 then 1 else if F_in x3 0 4 = 0 then 1 else if F_in x4 1 50 = 0 then 2 else if n < 40 then 0 else 3
def E_agree (x1 x2 x3 : Int32) (n : Nat) (st bd : A32) : Nat := if F_in x1 0 (nI n - 1) = 0 then 1 else if F_in x2 0 (nI n - 1) = 0 then 1 else if x1 = x2 then 2 else if F_in x3 0 600 = 0 then 2 else if st (ix x1) = 4 then 3 else if st (ix x2) = 4 then 3 else if bd (ix x1) = bd (ix x2) then 0 else 3
def E_inform (x1 x2 c : Int32) (n : Nat) (st : A32) : Nat := if F_in x1 0 (nI n - 1) = 0 then 1 else if st (ix x1) = 0 then (if c = 0 then 0 else if x2 = 0 then 2 else 0) else 2
def E_change (x1 x2 x3 : Int32) (n : Nat) (st : A32) : Nat := if F_in x1 0 (nI n - 1) = 0 then 1 else if F_in x2 0 359 = 0 then 1 else if F_in x3 1 50 = 0 then 2 else if st (ix x1) = 4 then 3 else 0
def E_withdraw (x1 : Int32) (n : Nat) (st : A32) : Nat := if F_in x1 0 (nI n - 1) = 0 then 1 else if st (ix x1) = 4 then 2 else 0
def E_use (x1 x2 : Int32) (n ns : Nat) (st sl hw ax si : A32) (td : Int32) : Nat := if F_in x1 0 (nI n - 1) = 0 then 1 else if F_in x2 0 (nI ns - 1) = 0 then 1 else if st (ix x1) = 1 then (if hw (ix x2) = 0 then (if ax (ix x2) = sl (ix x1) then (if 90 ≤ td - si (ix x2) then 0 else 2) else 2) else 2) else if st (ix x1) = 3 then (if hw (ix x2) = 0 then (if ax (ix x2) = sl (ix x1) then 0 else 2) else 2) else 2
def E_complain (x1 x2 : Int32) (n : Nat) (st : A32) : Nat := if F_in x1 0 (nI n - 1) = 0 then 1 else if F_in x2 0 (nI n - 1) = 0 then 1 else if st (ix x1) = 2 then (if st (ix x2) = 2 then 0 else 2) else 2
def E_launch (x1 x2 x3 : Int32) (ns : Nat) : Nat := if F_in x2 0 359 = 0 then 1 else if F_in x1 1 255 = 0 then 2 else if F_in x3 0 20 = 0 then 2 else if ns < 16 then 0 else 3
def E_register (x1 x2 : Int32) (ns : Nat) (ss : A32) : Nat := if F_in x1 0 (nI ns - 1) = 0 then 1 else if F_in x2 0 7 = 0 then 1 else if F_among (ss (ix x1)) x2 = 0 then 2 else 0
def E_move (x1 x2 : Int32) (ns : Nat) (hw fu ax : A32) : Nat := if F_in x1 0 (nI ns - 1) = 0 then 1 else if F_in x2 0 359 = 0 then 1 else if hw (ix x1) = 0 then (if fu (ix x1) < 1 then 2 else if ax (ix x1) = x2 then 2 else 0) else 2
def E_bury (x1 : Int32) (ns : Nat) (hw fu : A32) : Nat := if F_in x1 0 (nI ns - 1) = 0 then 1 else if hw (ix x1) = 0 then (if fu (ix x1) < 2 then 2 else 0) else 2
def E_die (x1 : Int32) (ns : Nat) (hw : A32) : Nat := if F_in x1 0 (nI ns - 1) = 0 then 1 else if hw (ix x1) = 0 then 0 else 2
def E_near (x1 x2 : Int32) (ns : Nat) (hw ax : A32) : Nat := if F_in x1 0 (nI ns - 1) = 0 then 1 else if F_in x2 0 (nI ns - 1) = 0 then 1 else if x1 = x2 then 2 else if hw (ix x1) = 1 then 3 else if hw (ix x2) = 1 then 3 else if ax (ix x1) = ax (ix x2) then 0 else 3
def E_claim (x1 x2 : Int32) (ns : Nat) : Nat := if F_in x1 0 (nI ns - 1) = 0 then 1 else if F_in x2 1 1000000 = 0 then 2 else 0
def E_pass (x1 td : Int32) : Nat := if F_in x1 1 400 = 0 then 1 else if td + x1 ≤ 5000 then 0 else 2
def E_filingOf (x1 x2 : Int32) (n : Nat) : Nat := if F_in x1 0 (nI n - 1) = 0 then 1 else if F_in x2 0 8 = 0 then 2 else 0
def E_satelliteOf (x1 x2 : Int32) (ns : Nat) : Nat := if F_in x1 0 (nI ns - 1) = 0 then 1 else if F_in x2 0 6 = 0 then 2 else 0
def E_one (x1 : Int32) (n : Nat) : Nat := if F_in x1 0 (nI n - 1) = 0 then 1 else 0
def E_two (x1 x2 : Int32) (n : Nat) : Nat := if F_in x1 0 (nI n - 1) = 0 then 1 else if F_in x2 0 (nI n - 1) = 0 then 1 else 0
def E_first (x1 x2 : Int32) : Nat := if F_in x1 0 359 = 0 then 1 else if F_in x2 0 4 = 0 then 1 else 0
def E_rng (x1 hi : Int32) : Nat := if F_in x1 0 hi = 0 then 1 else 0
/-! what a filing's change does, k: whether it keeps its date -/
def F_keep (w : Int32) : Int32 := if w = 0 then 1 else 0
def F_sus (st sl : A32) (i : Nat) (x2 : Int32) : Int32 := if st i = 2 then (if sl i = x2 then 0 else 1) else 0
