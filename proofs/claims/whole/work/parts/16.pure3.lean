theorem z_idivN {x y : Int32} {a b : Nat} (hx : x = nI a) (hy : y = nI b) (ha : a < 2147483648) (h0 : 0 < b) (hb : b < 2147483648) : x / y = nI (a / b) := by rw [hx, hy]; exact pk_div ha h0 hb
def F_if (w : Int32) (f g : A32) : A32 := if w = 0 then f else g
def F_ifI (w : Int32) (f g : Int32) : Int32 := if w = 0 then f else g
def F_ifN (w : Int32) (f g : Nat) : Nat := if w = 0 then f else g
def F_nz (c : Int32) : Int32 := if c = 0 then 0 else 1
def F_uph (u o : Int32) : Int32 := if u = 0 then 0 else if o = 0 then 0 else 1
def F_allow (dt st lm : A32) (i j : Nat) : Int32 := if F_ahead dt j i = 0 then -1 else if F_lapsed st i = 0 then (if F_lapsed st j = 0 then lm (i * 40 + j) else -1) else -1
def F_gt (x1 x2 : Int32) : Int32 := if x1 ≤ x2 then 2 else 1
theorem z_maxN {x1 x2 : Int32} {a b : Nat} (h1 : x1 = nI a) (h2 : x2 = nI b) (ha : a < 2147483648) (hb : b < 2147483648) : F_max x1 x2 = nI (max a b) := by
  subst h1; subst h2
  unfold F_max
  split
  · rename_i h; rw [Nat.max_eq_right (Nat.le_of_lt ((nI_ltI ha hb).mp h))]
  · rename_i h; rw [Nat.max_eq_left (Nat.not_lt.mp (fun q => h ((nI_ltI ha hb).mpr q)))]
def F_hitM (au : A32) (i j : Nat) (x1 x2 : Int32) : Int32 := if au i = 0 then 0 else if au j = 0 then 0 else if x1 &&& 1 = x2 &&& 1 then 1 else 0
def F_meetR (au : A32) (i j : Nat) (x1 x2 : Int32) : Int32 := if au i = 0 then F_gt x1 x2 else if au j = 0 then F_gt x1 x2 else if x1 &&& 1 = x2 &&& 1 then 4 else 3
def F_meetFu (fu au : A32) (i j : Nat) : A32 := if au i = 0 then upd fu (max i j) (fu (max i j) - 1) else if au j = 0 then upd fu (max i j) (fu (max i j) - 1) else upd (upd fu i (fu i - 1)) j (upd fu i (fu i - 1) j - 1)
def F_nearR (hw fu au : A32) (i j : Nat) (x1 x2 : Int32) : Int32 := if F_canDodge hw fu i = 0 then (if F_canDodge hw fu j = 0 then 0 else 2) else if F_canDodge hw fu j = 0 then 1 else F_meetR au i j x1 x2
def F_nearH (hw fu au : A32) (i j : Nat) (x1 x2 : Int32) : Int32 := if F_canDodge hw fu i = 0 then (if F_canDodge hw fu j = 0 then 1 else 0) else if F_canDodge hw fu j = 0 then 0 else F_hitM au i j x1 x2
def F_nearFu (hw fu au : A32) (i j : Nat) : A32 := if F_canDodge hw fu i = 0 then (if F_canDodge hw fu j = 0 then fu else upd fu j (fu j - 1)) else if F_canDodge hw fu j = 0 then upd fu i (fu i - 1) else F_meetFu fu au i j
def F_b1 (x : Int32) : Int32 := x - ((x.toUInt32 >>> ((1 : Int32).toUInt32 &&& Int32.toUInt32 31)).toInt32 &&& 1431655765)
def F_b2 (x : Int32) : Int32 := (x &&& 858993459) + ((x.toUInt32 >>> ((2 : Int32).toUInt32 &&& Int32.toUInt32 31)).toInt32 &&& 858993459)
def F_b3 (x : Int32) : Int32 := (x + (x.toUInt32 >>> ((4 : Int32).toUInt32 &&& Int32.toUInt32 31)).toInt32) &&& 252645135
def F_b4 (x : Int32) : Int32 := x + (x.toUInt32 >>> ((8 : Int32).toUInt32 &&& Int32.toUInt32 31)).toInt32
def F_b5 (x : Int32) : Int32 := x + (x.toUInt32 >>> ((16 : Int32).toUInt32 &&& Int32.toUInt32 31)).toInt32
def F_bit (x : Int32) : Int32 := F_b5 (F_b4 (F_b3 (F_b2 (F_b1 x)))) &&& 63
def F_share (s x2 : Int32) : Int32 := (x2 + F_bit s - 1) / F_bit s
def F_pay (s sh : Int32) (py : A64) : Nat → A64
  | 0 => py
  | k + 1 => if F_among s (nI k) = 0 then F_pay s sh py k else vp_updL (F_pay s sh py k) k (F_pay s sh py k k + sh.toInt64)
def F_claims (s x3 x4 : Int32) : Int32 := if F_bit s = 0 then 0 else if x3 = 0 then (if x4 = 0 then 0 else 1) else 1
def F_if6 (w : Int32) (f g : A64) : A64 := if w = 0 then f else g
def F_drA (px : A32) : Nat → A32 × Int32
  | 0 => (px, px 35 / 10)
  | k + 1 => (upd (F_drA px k).1 k ((F_drA px k).1 k + ((F_drA px k).2 - (F_drA px k).1 k / 10)), (F_drA px k).1 k / 10)
def F_drift (px : A32) : A32 := (F_drA px 36).1
def F_drifts (px : A32) : Nat → A32
  | 0 => px
  | k + 1 => F_drift (F_drifts px k)
def F_fof (ld sl bd pw dt st uc sv tl so : A32) (i k : Nat) : Int32 := if k = 0 then ld i else if k = 1 then sl i else if k = 2 then bd i else if k = 3 then pw i else if k = 4 then dt i else if k = 5 then st i else if k = 6 then (if uc i = 0 then 0 else 1) else if k = 7 then sv i else F_lapseDay (st i) (tl i) (so i)
def F_sof (ss rg hw ax fu si : A32) (td c : Int32) (i k : Nat) : Int32 := if k = 0 then ss i else if k = 1 then rg i else if k = 2 then hw i else if k = 3 then ax i else if k = 4 then fu i else if k = 5 then (if hw i = 1 then -1 else td - si i) else c
