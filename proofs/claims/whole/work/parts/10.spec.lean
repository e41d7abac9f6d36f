/-! WHAT THE CLASS'S METHODS DO, as functions of the state -/
theorem lit_10 : ((1 : Int32) = 0) = False := eq_false (by decide)
def bI (b : Bool) : Int32 := if b then 1 else 0
def rm16 (x : Int32) : Int32 := x - x / 16 * 16
def bit1 (t : Int32) : Int32 := (1 : Int32) <<< (t &&& 31)
def f_isTimer (t : Int32) : Int32 := if t < 0 then 0 else if 8 ≤ t then 0 else 1
def f_isGate (g : Int32) : Int32 := if g < 0 then 0 else if 4 ≤ g then 0 else 1
def f_isSource (t src : Int32) : Int32 := if src = 0 then 1 else if src = 1 then (if t ≤ 0 then 0 else 1) else 0
def f_isBitSet (x : Int32) : Int32 := if x < 0 then 0 else if 255 < x then 0 else 1
def f_isTickCount (n : Int32) : Int32 := if n < 0 then 0 else if 20000 < n then 0 else 1
def f_set (σ : St) (t src per : Int32) (b : Bool) : Int32 × St :=
  if f_isTimer t = 0 then (0, σ) else if f_isSource t src = 0 then (0, σ) else if per < 1 then (0, σ) else if per ≤ 65535 then
    (1, up2 (up2 (up2 (up2 (up2 σ (5 + t.toNatClampNeg) 2 src) (5 + t.toNatClampNeg) 0 per) (5 + t.toNatClampNeg) 1 per) (5 + t.toNatClampNeg) 3 (bI b)) (5 + t.toNatClampNeg) 4 0) else (0, σ)
def f_turn (σ : St) (t : Int32) (b : Bool) : Int32 × St :=
  if f_isTimer t = 0 then (0, σ) else if σ (5 + t.toNatClampNeg) 4 = bI b then (0, σ) else (1, up2 σ (5 + t.toNatClampNeg) 4 (bI b))
def f_gate (σ : St) (g mask delay : Int32) : Int32 × St :=
  if f_isGate g = 0 then (0, σ) else if f_isBitSet mask = 0 then (0, σ) else if delay < 1 then (0, σ) else if delay ≤ 1000 then
    (1, up2 (up2 σ (13 + g.toNatClampNeg) 0 mask) (13 + g.toNatClampNeg) 1 delay) else (0, σ)
def clrL (c : Int32) : Nat → Nat → St → St
  | 0, _, σ => σ
  | n + 1, t, σ => clrL c n (t + 1) (if c &&& bit1 (nI t) = 0 then σ else up2 σ (5 + t) 8 (σ (5 + t) 8 + 1))
def f_clear (σ : St) (x : Int32) : Int32 × St :=
  if f_isBitSet x = 0 then (-1, σ) else (σ 0 3 &&& x, up2 (clrL (σ 0 3 &&& x) 8 0 σ) 0 3 (clrL (σ 0 3 &&& x) 8 0 σ 0 3 &&& ((σ 0 3 &&& x) ^^^ (-1))))
def f_countDown (σ : St) (i : Nat) : Int32 × St :=
  if σ i 4 = 0 then (0, σ) else if σ i 1 ≤ 1 then
    (if up2 (up2 σ i 1 (σ i 0)) i 5 (up2 σ i 1 (σ i 0) i 5 + 1) i 3 = 0 then (1, up2 (up2 σ i 1 (σ i 0)) i 5 (up2 σ i 1 (σ i 0) i 5 + 1))
     else (1, up2 (up2 (up2 σ i 1 (σ i 0)) i 5 (up2 σ i 1 (σ i 0) i 5 + 1)) i 4 0))
  else (0, up2 σ i 1 (σ i 1 - 1))
def f_raise (σ : St) (t : Nat) : St :=
  if σ 0 3 &&& bit1 (nI t) = 0 then up2 σ 0 3 (σ 0 3 ||| bit1 (nI t))
  else up2 (up2 σ (5 + t) 6 (σ (5 + t) 6 + 1)) 0 3 (up2 σ (5 + t) 6 (σ (5 + t) 6 + 1) 0 3 ||| bit1 (nI t))
def stT (e : Int32) (t : Nat) (σ : St) : Int32 × St :=
  if σ (5 + t) 2 = 0 then (if (f_countDown σ (5 + t)).1 = 0 then (0, (f_countDown σ (5 + t)).2) else (1, f_raise (f_countDown σ (5 + t)).2 t))
  else if e = 0 then (0, σ) else (if (f_countDown σ (5 + t)).1 = 0 then (0, (f_countDown σ (5 + t)).2) else (1, f_raise (f_countDown σ (5 + t)).2 t))
def tkT : Nat → Nat → Int32 → St → St
  | 0, _, _, σ => σ
  | n + 1, t, e, σ => tkT n (t + 1) (stT e t σ).1 (stT e t σ).2
def f_asks (σ : St) (i : Nat) (st : Int32) : Int32 := if st &&& σ i 0 = 0 then 0 else 1
def f_waitEnds (σ : St) (i : Nat) : Int32 × St :=
  if σ i 2 = 0 then (0, σ) else (if up2 σ i 2 (σ i 2 - 1) i 2 = 0 then 1 else 0, up2 σ i 2 (σ i 2 - 1))
def lbN (b : Int32) : Nat → Nat → Nat
  | 0, _ => 7
  | n + 1, t => if b &&& bit1 (nI t) = 0 then lbN b n (t + 1) else t
def f_arr (σ : St) (b sv tm : Int32) : St := up2 (up2 (up2 (up2 σ 2 (σ 1 5).toNatClampNeg b) 3 (σ 1 5).toNatClampNeg sv) 4 (σ 1 5).toNatClampNeg tm) 1 5 (rm16 (σ 1 5 + 1))
def f_add (σ : St) (b sv tm : Int32) : St :=
  if 16 ≤ σ 1 4 then up2 (f_arr σ b sv tm) 1 3 (σ 1 3 + 1) else up2 (up2 (f_arr σ b sv tm) 1 4 (σ 1 4 + 1)) 1 3 (σ 1 3 + 1)
def f_serve (σ : St) (g : Nat) : Int32 × St :=
  if f_asks σ (13 + g) (σ 0 3) = 0 then (0, up2 σ (13 + g) 4 (σ (13 + g) 4 + 1)) else
    let t := lbN (σ 0 3 &&& σ (13 + g) 0) 7 0
    let σ1 := up2 σ 0 3 (σ 0 3 &&& (bit1 (nI t) ^^^ (-1)))
    let σ2 := up2 σ1 (5 + t) 7 (σ1 (5 + t) 7 + 1)
    let σ3 := up2 σ2 (13 + g) 3 (σ2 (13 + g) 3 + 1)
    let σ4 := up2 σ3 (13 + g) 5 (σ3 0 4)
    (1, f_add σ4 (nI t) (nI g) (σ4 0 4))
def stG (g : Nat) (sv : Int32) (σ : St) : Int32 × St :=
  if (f_waitEnds σ (13 + g)).1 = 0 then (sv, (f_waitEnds σ (13 + g)).2)
  else if (f_serve (f_waitEnds σ (13 + g)).2 g).1 = 0 then (sv, (f_serve (f_waitEnds σ (13 + g)).2 g).2)
  else (sv + 1, (f_serve (f_waitEnds σ (13 + g)).2 g).2)
def tkG : Nat → Nat → Int32 → St → Int32 × St
  | 0, _, sv, σ => (sv, σ)
  | n + 1, g, sv, σ => tkG n (g + 1) (stG g sv σ).1 (stG g sv σ).2
def stW (g : Nat) (σ : St) : St :=
  if σ (13 + g) 2 = 0 then (if f_asks σ (13 + g) (σ 0 3) = 0 then σ else up2 σ (13 + g) 2 (σ (13 + g) 1)) else σ
def wkG : Nat → Nat → St → St
  | 0, _, σ => σ
  | n + 1, g, σ => wkG n (g + 1) (stW g σ)
def f_tick (σ : St) : Int32 × St :=
  ((tkG 4 0 0 (tkT 8 0 0 (up2 σ 0 4 (σ 0 4 + 1)))).1, wkG 4 0 (tkG 4 0 0 (tkT 8 0 0 (up2 σ 0 4 (σ 0 4 + 1)))).2)
def advL : Nat → Int32 → St → Int32 × St
  | 0, sv, σ => (sv, σ)
  | n + 1, sv, σ => advL n (sv + (f_tick σ).1) (f_tick σ).2
def f_advance (σ : St) (n : Int32) : Int32 × St := if f_isTickCount n = 0 then (-1, σ) else advL n.toNatClampNeg 0 σ
/-- n: how many are left, i: how many were -/
def nxtL (N : Int32) : Nat → Nat → St → Int32 × St
  | 0, _, σ => (N, σ)
  | n + 1, i, σ => if (f_tick σ).1 ≤ 0 then nxtL N n (i + 1) (f_tick σ).2 else (nI i + 1, (f_tick σ).2)
def f_next (σ : St) (n : Int32) : Int32 × St := if f_isTickCount n = 0 then (-1, σ) else nxtL n n.toNatClampNeg 0 σ
def f_Tread (σ : St) (i : Nat) (w : Int32) : Int32 :=
  if w = 0 then σ i 1 else if w = 1 then σ i 0 else if w = 2 then σ i 2 else if w = 3 then (if σ i 4 = 0 then 0 else 1) else if w = 4 then (if σ i 3 = 0 then 0 else 1)
  else if w = 5 then σ i 5 else if w = 6 then σ i 6 else if w = 7 then σ i 7 else if w = 8 then σ i 8 else -1
def f_timer (σ : St) (t w : Int32) : Int32 := if f_isTimer t = 0 then -1 else f_Tread σ (5 + t.toNatClampNeg) w
def f_Gread (σ : St) (i : Nat) (w st : Int32) : Int32 :=
  if w = 0 then (if f_asks σ i st = 0 then 0 else 1) else if w = 1 then σ i 2 else if w = 2 then σ i 0 else if w = 3 then σ i 1 else if w = 4 then σ i 3 else if w = 5 then σ i 4 else if w = 6 then σ i 5 else -1
def f_gateOf (σ : St) (g w : Int32) : Int32 := if f_isGate g = 0 then -1 else f_Gread σ (13 + g.toNatClampNeg) w (σ 0 3)
def stN (σ : St) (t : Nat) (x : Int32) : Int32 :=
  if σ (5 + t) 4 = 0 then x else if σ (5 + t) 2 = 0 then (if x = 0 then σ (5 + t) 1 else if x ≤ σ (5 + t) 1 then x else σ (5 + t) 1) else x
def tnL (σ : St) : Nat → Nat → Int32 → Int32
  | 0, _, x => x
  | n + 1, t, x => tnL σ n (t + 1) (stN σ t x)
def f_look (σ : St) (w : Int32) : Int32 := if w = 0 then σ 0 3 else if w = 1 then σ 0 4 else if w = 2 then σ 1 3 else if w = 3 then tnL σ 8 0 0 else -1
def f_Hread (σ : St) (i w : Int32) : Int32 :=
  if i < 0 then -1 else if i < σ 1 4 then (if w = 0 then σ 2 (rm16 (σ 1 5 + 16 - 1 - i)).toNatClampNeg else if w = 1 then σ 3 (rm16 (σ 1 5 + 16 - 1 - i)).toNatClampNeg else if w = 2 then σ 4 (rm16 (σ 1 5 + 16 - 1 - i)).toNatClampNeg else -1) else -1
