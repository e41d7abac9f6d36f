/-! WHAT THE REFERENCE'S METHODS DO -/
theorem lit_1_0 : ((1 : Int32) = 0) = False := eq_false (by decide)
theorem lit_2_0 : ((2 : Int32) = 0) = False := eq_false (by decide)
theorem lit_2_1 : ((2 : Int32) = 1) = False := eq_false (by decide)
theorem lit_3_0 : ((3 : Int32) = 0) = False := eq_false (by decide)
theorem lit_3_1 : ((3 : Int32) = 1) = False := eq_false (by decide)
theorem lit_3_2 : ((3 : Int32) = 2) = False := eq_false (by decide)
def nn (μ : St) : Nat := (μ 0 3).toNatClampNeg
def f_isIn (v lo hi : Int32) : Int32 := if v < lo then 0 else if hi < v then 0 else 1
def g_put (μ : St) (t : Nat) (src per : Int32) (x : Bool) : St := up2 (up2 (up2 (up2 (up2 μ 6 t src) 4 t per) 5 t per) 7 t (bI x)) 8 t 0
def g_set (μ : St) (t src per : Int32) (x : Bool) : Int32 × St :=
  if f_isIn t 0 7 = 0 then (0, μ) else if t = 0 then
    (if f_isIn src 0 0 = 0 then (0, μ) else if f_isIn per 1 65535 = 0 then (0, μ) else (1, g_put μ t.toNatClampNeg src per x))
  else (if f_isIn src 0 1 = 0 then (0, μ) else if f_isIn per 1 65535 = 0 then (0, μ) else (1, g_put μ t.toNatClampNeg src per x))
def g_turn (μ : St) (t : Int32) (x : Bool) : Int32 × St :=
  if f_isIn t 0 7 = 0 then (0, μ) else if μ 8 t.toNatClampNeg = bI x then (0, μ) else (1, up2 μ 8 t.toNatClampNeg (bI x))
def g_gate (μ : St) (g mask delay : Int32) : Int32 × St :=
  if f_isIn g 0 3 = 0 then (0, μ) else if f_isIn mask 0 255 = 0 then (0, μ) else if f_isIn delay 1 1000 = 0 then (0, μ) else (1, up2 (up2 μ 10 g.toNatClampNeg mask) 11 g.toNatClampNeg delay)
def clrM (c : Int32) : Nat → Nat → St → St
  | 0, _, μ => μ
  | n + 1, t, μ => clrM c n (t + 1) (up2 μ 9 (4 * t + 3) (μ 9 (4 * t + 3) + (c >>> (nI t &&& 31) &&& 1)))
def g_clear (μ : St) (x : Int32) : Int32 × St :=
  if f_isIn x 0 255 = 0 then (-1, μ) else (μ 0 2 &&& x, up2 (clrM (μ 0 2 &&& x) 8 0 μ) 0 2 (clrM (μ 0 2 &&& x) 8 0 μ 0 2 - (μ 0 2 &&& x)))
def g_end (μ : St) (t : Nat) (r : Int32) : St :=
  let μ1 := up2 μ 5 t (μ 5 t - 1)
  let μ2 := up2 μ1 5 t (μ1 4 t)
  let μ3 := up2 μ2 8 t r
  let μ4 := up2 μ3 9 (4 * t) (μ3 9 (4 * t) + 1)
  let μ5 := up2 μ4 9 (4 * t + 1) (μ4 9 (4 * t + 1) + (μ4 0 2 >>> (nI t &&& 31) &&& 1))
  up2 μ5 0 2 (μ5 0 2 ||| bit1 (nI t))
def g_event (μ : St) (t : Nat) : Int32 × St :=
  if μ 8 t = 0 then (0, μ) else if up2 μ 5 t (μ 5 t - 1) 5 t ≤ 0 then
    (if up2 (up2 μ 5 t (μ 5 t - 1)) 5 t (up2 μ 5 t (μ 5 t - 1) 4 t) 7 t = 0 then (1, g_end μ t 1) else (1, g_end μ t 0))
  else (0, up2 μ 5 t (μ 5 t - 1))
def g_asks (μ : St) (g : Nat) : Int32 := if μ 0 2 &&& μ 10 g = 0 then 0 else 1
def g_serve (μ : St) (g : Nat) : St :=
  if g_asks μ g = 0 then up2 μ 15 g (μ 15 g + 1) else
    let t := lbN (μ 0 2 &&& μ 10 g) 7 0
    let p := 3 * (nn μ % 16)
    let μ1 := up2 μ 0 2 (μ 0 2 - bit1 (nI t))
    let μ2 := up2 μ1 9 (4 * t + 2) (μ1 9 (4 * t + 2) + 1)
    let μ3 := up2 μ2 14 g (μ2 14 g + 1)
    let μ4 := up2 μ3 16 g (μ3 0 1)
    let μ5 := up2 μ4 17 p (nI t)
    let μ6 := up2 μ5 17 (p + 1) (nI g)
    let μ7 := up2 μ6 17 (p + 2) (μ6 0 1)
    up2 μ7 0 3 (μ7 0 3 + 1)
def smT (e : Int32) (t : Nat) (μ : St) : Int32 × St :=
  if μ 6 t = 0 then (if (g_event μ t).1 = 0 then (0, (g_event μ t).2) else (1, (g_event μ t).2))
  else if e = 0 then (0, μ) else (if (g_event μ t).1 = 0 then (0, (g_event μ t).2) else (1, (g_event μ t).2))
def mkT : Nat → Nat → Int32 → St → St
  | 0, _, _, μ => μ
  | n + 1, t, e, μ => mkT n (t + 1) (smT e t μ).1 (smT e t μ).2
def g_dn (μ : St) (g : Nat) (d : Int32) : St := let μ1 := up2 μ 13 g d; if μ1 12 g ≤ 0 then μ1 else up2 μ1 12 g (μ1 12 g - 1)
def smG (g : Nat) (μ : St) : St :=
  if μ 12 g = 1 then (if g_dn μ g 1 13 g = 0 then g_dn μ g 1 else g_serve (g_dn μ g 1) g) else (if g_dn μ g 0 13 g = 0 then g_dn μ g 0 else g_serve (g_dn μ g 0) g)
def mkG : Nat → Nat → St → St
  | 0, _, μ => μ
  | n + 1, g, μ => mkG n (g + 1) (smG g μ)
def smW (g : Nat) (μ : St) : St := if μ 12 g = 0 then (if g_asks μ g = 0 then μ else up2 μ 12 g (μ 11 g)) else μ
def mkW : Nat → Nat → St → St
  | 0, _, μ => μ
  | n + 1, g, μ => mkW n (g + 1) (smW g μ)
def g_tick (μ : St) : St := mkW 4 0 (mkG 4 0 (mkT 8 0 0 (up2 μ 0 1 (μ 0 1 + 1))))
def advM : Nat → St → St
  | 0, μ => μ
  | n + 1, μ => advM n (g_tick μ)
def g_advance (μ : St) (n : Int32) : Int32 × St := if f_isIn n 0 20000 = 0 then (-1, μ) else (advM n.toNatClampNeg μ 0 3 - μ 0 3, advM n.toNatClampNeg μ)
def nxtM (B : Int32) : Nat → Nat → St → Int32 × St
  | 0, i, μ => (nI i, μ)
  | n + 1, i, μ => if μ 0 3 = B then nxtM B n (i + 1) (g_tick μ) else (nI i, μ)
def g_next (μ : St) (n : Int32) : Int32 × St := if f_isIn n 0 20000 = 0 then (-1, μ) else nxtM (μ 0 3) n.toNatClampNeg 0 μ
def g_Tread (μ : St) (t : Nat) (w : Int32) : Int32 :=
  if w = 0 then μ 5 t else if w = 1 then μ 4 t else if w = 2 then μ 6 t else if w = 3 then (if μ 8 t = 0 then 0 else 1) else if w = 4 then (if μ 7 t = 0 then 0 else 1)
  else if w = 5 then μ 9 (4 * t) else if w = 6 then μ 9 (4 * t + 1) else if w = 7 then μ 9 (4 * t + 2) else if w = 8 then μ 9 (4 * t + 3) else -1
def g_timer (μ : St) (t w : Int32) : Int32 := if f_isIn t 0 7 = 0 then -1 else g_Tread μ t.toNatClampNeg w
def g_Gread (μ : St) (g : Nat) (w : Int32) : Int32 :=
  if w = 0 then (if g_asks μ g = 0 then 0 else 1) else if w = 1 then μ 12 g else if w = 2 then μ 10 g else if w = 3 then μ 11 g else if w = 4 then μ 14 g else if w = 5 then μ 15 g else if w = 6 then μ 16 g else -1
def g_gateOf (μ : St) (g w : Int32) : Int32 := if f_isIn g 0 3 = 0 then -1 else g_Gread μ g.toNatClampNeg w
def smN (μ : St) (t : Nat) (x : Int32) : Int32 :=
  if μ 8 t = 0 then x else if μ 6 t = 0 then (if x = 0 then μ 5 t else if x ≤ μ 5 t then x else μ 5 t) else x
def mnL (μ : St) : Nat → Nat → Int32 → Int32
  | 0, _, x => x
  | n + 1, t, x => mnL μ n (t + 1) (smN μ t x)
def g_look (μ : St) (w : Int32) : Int32 := if w = 0 then μ 0 2 else if w = 1 then μ 0 1 else if w = 2 then μ 0 3 else if w = 3 then mnL μ 8 0 0 else -1
def g_served (μ : St) (i w : Int32) : Int32 :=
  if f_isIn i 0 15 = 0 then -1 else if μ 0 3 ≤ i then -1 else if f_isIn w 0 2 = 0 then -1 else μ 17 (3 * ((nn μ - 1 - i.toNatClampNeg) % 16) + w.toNatClampNeg)
