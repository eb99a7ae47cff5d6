/-! the reference as numbers: what stands (Sp), what comes of one amount (Oc) -/
abbrev Sp : Type := (Nat → Nat → Nat) × (Nat → Nat → Int)
abbrev isL (s : Sp) (l : Nat) : Nat := s.1 0 l
abbrev yr (s : Sp) (l : Nat) : Nat := s.1 1 l
abbrev fr (s : Sp) (l : Nat) : Nat := s.1 2 l
abbrev sz (s : Sp) (l : Nat) : Nat := s.1 3 l
abbrev tm (s : Sp) (l : Nat) : Nat := s.1 4 l
abbrev ng (s : Sp) (l : Nat) : Nat := s.1 5 l
abbrev sg (s : Sp) (j : Nat) : Nat := s.1 6 j
abbrev tn (s : Sp) (j : Nat) : Nat := s.1 7 j
abbrev hg (s : Sp) (y : Nat) : Nat := s.1 8 y
abbrev rg (s : Sp) (j : Nat) : Nat := s.1 9 j
abbrev hl (s : Sp) (l : Nat) : Nat := s.1 10 l
abbrev lk (s : Sp) : Nat := s.1 11 0
abbrev cL (s : Sp) : Nat := s.1 12 0
abbrev isH (s : Sp) (h : Nat) : Nat := s.1 13 h
abbrev fs (s : Sp) (h : Nat) : Nat := s.1 14 h
abbrev ls (s : Sp) (h : Nat) : Nat := s.1 15 h
abbrev sh (s : Sp) (h : Nat) : Nat := s.1 16 h
abbrev gr (s : Sp) (h : Nat) : Nat := s.1 17 h
abbrev cH (s : Sp) : Nat := s.1 18 0
abbrev sd (s : Sp) (i : Nat) : Nat := s.1 19 i
abbrev cs (s : Sp) (i : Nat) : Nat := s.1 20 i
abbrev ru (s : Sp) (j : Nat) : Nat := s.1 21 j
abbrev us (s : Sp) (l : Nat) : Int := s.2 0 l
abbrev lo (s : Sp) (h : Nat) : Int := s.2 1 h
abbrev tk (s : Sp) (j : Nat) : Int := s.2 2 j
abbrev th (s : Sp) (j : Nat) : Int := s.2 3 j
abbrev mv (s : Sp) (j : Nat) : Int := s.2 4 j
abbrev hd (s : Sp) (j : Nat) : Int := s.2 5 j
abbrev br (s : Sp) (j : Nat) : Int := s.2 6 j
abbrev fl (s : Sp) (j : Nat) : Int := s.2 7 j
def sp0 : Sp := (fun _ _ => 0, fun _ _ => 0)
/-- a place of a field of numbers, of amounts -/
def uN' (s : Sp) (f i v : Nat) : Sp := (fun g j => if g = f ∧ j = i then v else s.1 g j, s.2)
def uZ (s : Sp) (f i : Nat) (v : Int) : Sp := (s.1, fun g j => if g = f ∧ j = i then v else s.2 g j)
theorem uN_1 (s : Sp) (f i v g j : Nat) : (uN' s f i v).1 g j = if g = f ∧ j = i then v else s.1 g j := rfl
theorem uN_2 (s : Sp) (f i v : Nat) : (uN' s f i v).2 = s.2 := rfl
theorem uZ_1 (s : Sp) (f i : Nat) (v : Int) : (uZ s f i v).1 = s.1 := rfl
theorem uZ_2 (s : Sp) (f i : Nat) (v : Int) (g j : Nat) : (uZ s f i v).2 g j = if g = f ∧ j = i then v else s.2 g j := rfl
def lkb (s : Sp) (y : Nat) : Bool := (lk s).testBit y
def tp (s : Sp) (l : Nat) : Nat := fr s l + sz s l
def lf (s : Sp) (l : Nat) : Int := (sz s l : Int) * (tm s l : Int) - us s l
def cT (s : Sp) (h l : Nat) : Int := min (lf s l) ((sz s l : Int) - tk s (40 * h + l))
def hL (s : Sp) (h l : Nat) : Int := max ((hl s l : Int) - th s (40 * h + l)) 0
def rmS (s : Sp) (h y : Nat) : Int := sm (fun k => cT s h (rg s (6 * y + k)) + hL s h (rg s (6 * y + k))) (hg s y)
def szS (s : Sp) (y : Nat) : Int := sm (fun k => (sz s (rg s (6 * y + k)) : Int)) (hg s y)
/-- years set off -/
def offB (a b c t y : Nat) : Bool := decide (a ≤ y ∧ y ≤ c ∧ (t = 2 ∨ t = 1 ∧ y = c ∨ t = 0 ∧ y ≤ b ∨ t = 3 ∧ (y ≤ b ∨ y = c)))
def orb (f : Nat → Bool) : Nat → Nat
  | 0 => 0
  | n + 1 => orb f n ||| (if f n then 2 ^ n else 0)
def offV (a b c t : Nat) : Nat := orb (offB a b c t) 12
/-- what comes of an amount: 0 taken, 1 through, 2 given, 3 had, 4 borne, 5 reasons -/
abbrev Oc : Type := Nat → Nat → Int
def uO (O : Oc) (f i : Nat) (v : Int) : Oc := fun g j => if g = f ∧ j = i then v else O g j
theorem uO_1 (O : Oc) (f i : Nat) (v : Int) (g j : Nat) : uO O f i v g j = if g = f ∧ j = i then v else O g j := rfl
def oc0 : Oc := fun _ _ => 0
def fil (s : Sp) (h y : Nat) (a : Int) (O : Oc) : Nat → Int × Oc
  | 0 => (a, O)
  | k + 1 => ((fil s h y a O k).1 - (min (fil s h y a O k).1 (hL s h (rg s (6 * y + k))) + min ((fil s h y a O k).1 - min (fil s h y a O k).1 (hL s h (rg s (6 * y + k)))) (cT s h (rg s (6 * y + k)))),
      uO (uO (uO (fil s h y a O k).2 1 (rg s (6 * y + k)) (min (fil s h y a O k).1 (hL s h (rg s (6 * y + k))))) 0 (rg s (6 * y + k)) (min ((fil s h y a O k).1 - min (fil s h y a O k).1 (hL s h (rg s (6 * y + k)))) (cT s h (rg s (6 * y + k))))) 5 1 ((fil s h y a O k).2 5 1 + min (fil s h y a O k).1 (hL s h (rg s (6 * y + k)))))
/-- shares of an amount by weights -/
def cp (w : Nat → Int) : Nat → Int
  | 0 => 0
  | n + 1 => cp w n + (if 0 < w n then 1 else 0)
def sh0 (n : Nat) (a : Int) (w : Nat → Int) (k : Nat) : Int := a / sm w n * w k + (a - a / sm w n * sm w n) * w k / sm w n
def shR (n : Nat) (a : Int) (w : Nat → Int) : Int := a - sm (sh0 n a w) n
def shF (n : Nat) (a : Int) (w : Nat → Int) (k : Nat) : Int := if sm w n ≤ 0 then 0 else sh0 n a w k + if 0 < w k ∧ cp w k < shR n a w then 1 else 0
/-- weights -/
def wA (s : Sp) (off : Nat → Bool) (y : Nat) : Int := if off y = true ∧ lkb s y = false then 1 else 0
def opn (s : Sp) (off : Nat → Bool) (y : Nat) : Bool := off y && decide (hg s y ≠ 0)
def opC (s : Sp) (off : Nat → Bool) : Nat → Nat
  | 0 => 0
  | n + 1 => opC s off n + (if opn s off n then 1 else 0)
def szT (s : Sp) (off : Nat → Bool) (n : Nat) : Int := sm (fun y => if opn s off y then szS s y else 0) n
def wS (s : Sp) (off : Nat → Bool) (y : Nat) : Int := if off y = true ∧ lkb s y = false then (if opC s off 12 = 0 then 1 else if hg s y = 0 then szT s off 12 / (opC s off 12 : Int) else szS s y) else 0
/-- each year is filled with its part -/
def pw (s : Sp) (h : Nat) (p : Nat → Int) : Nat → Oc
  | 0 => oc0
  | y + 1 => if hg s y = 0 then uO (pw s h p y) 5 3 (pw s h p y 5 3 + p y)
      else uO (fil s h y (p y) (pw s h p y) (hg s y)).2 5 2 ((pw s h p y) 5 2 + (fil s h y (p y) (pw s h p y) (hg s y)).1)
def pyW (s : Sp) (h : Nat) (a : Int) (w : Nat → Int) : Oc := if sm w 12 ≤ 0 then uO oc0 5 3 a else pw s h (shF 12 a w) 12
/-- the order of years by the pick -/
def kyY (s : Sp) (h y : Nat) : Int := if ru s 2 = 0 then - rmS s h y else if ru s 2 = 2 then (fr s (rg s (6 * y)) : Int) else if ru s 2 = 1 then - (y : Int) else (y : Int)
def bef (s : Sp) (h : Nat) (off : Nat → Bool) (o y : Nat) : Bool := opn s off o && decide (o ≠ y ∧ (kyY s h o < kyY s h y ∨ kyY s h o = kyY s h y ∧ o < y))
def ahd (s : Sp) (h : Nat) (off : Nat → Bool) (y : Nat) : Nat → Nat
  | 0 => 0
  | n + 1 => ahd s h off y n + (if bef s h off n y then 1 else 0)
/-- o is the order: its k-th year has k years ahead of it -/
def isO (s : Sp) (h : Nat) (off : Nat → Bool) (o : Nat → Nat) : Prop := ∀ k, k < opC s off 12 → o k < 12 ∧ opn s off (o k) = true ∧ ahd s h off (o k) 12 = k
noncomputable def odY (s : Sp) (h : Nat) (off : Nat → Bool) : Nat → Nat := fun k => if k < opC s off 12 then (Classical.epsilon fun y => y < 12 ∧ opn s off y = true ∧ ahd s h off y 12 = k) else 0
def pf (s : Sp) (h : Nat) (o : Nat → Nat) (a : Int) : Nat → Int × Oc
  | 0 => (a, oc0)
  | k + 1 => fil s h (o k) (pf s h o a k).1 (pf s h o a k).2 (hg s (o k))
def rsn (n : Nat) : Nat := if n = 0 then 3 else 2
noncomputable def pyF (s : Sp) (h : Nat) (off : Nat → Bool) (a : Int) : Oc :=
  uO (pf s h (odY s h off) a (opC s off 12)).2 5 (rsn (opC s off 12)) ((pf s h (odY s h off) a (opC s off 12)).2 5 (rsn (opC s off 12)) + (pf s h (odY s h off) a (opC s off 12)).1)
/-- contribution -/
def exc (A B : Nat → Int) (l : Nat) : Int := max (A l - B l) 0
def mvd (A B : Nat → Int) : Int := min (sm (exc A B) 40) (sm (exc B A) 40)
def gts (A B : Nat → Int) (l : Nat) : Int := shF 40 (mvd A B) (exc A B) l
def gvs (A B : Nat → Int) (l : Nat) : Int := shF 40 (mvd A B) (exc B A) l
def ctr (O : Oc) (B : Nat → Int) : Oc := fun f j => if f = 0 ∧ j < 40 then O 0 j + (gvs (O 0) B j - gts (O 0) B j) else if f = 2 ∧ j < 40 then O 2 j + (gvs (O 0) B j - gts (O 0) B j) else O f j
/-- level with level -/
def rmY (s : Sp) (h : Nat) (off : Nat → Bool) (y : Nat) : Int := if opn s off y then rmS s h y else 0
def lev (r : Nat → Int) (L : Int) : Int := sm (fun y => min L (r y)) 12
def isV (r : Nat → Int) (a L : Int) : Prop := 0 ≤ L ∧ L ≤ 2000000000 ∧ lev r L ≤ a ∧ ∀ M, L < M → M ≤ 2000000000 → a < lev r M
noncomputable def lvl (r : Nat → Int) (a : Int) : Int := Classical.epsilon fun L => isV r a L
/-- years ahead of y that have more room than the level -/
def mor (r : Nat → Int) (L : Int) : Nat → Int
  | 0 => 0
  | n + 1 => mor r L n + (if L < r n then 1 else 0)
def prt (r : Nat → Int) (L rest : Int) (y : Nat) : Int := min L (r y) + if L < r y ∧ mor r L y < rest then 1 else 0
def pl (s : Sp) (h : Nat) (off : Nat → Bool) (p : Nat → Int) : Nat → Oc
  | 0 => oc0
  | y + 1 => if opn s off y then (fil s h y (p y) (pl s h off p y) (hg s y)).2 else pl s h off p y
noncomputable def pyL (s : Sp) (h : Nat) (off : Nat → Bool) (a : Int) : Oc :=
  uO (pl s h off (prt (rmY s h off) (lvl (rmY s h off) a) (a - lev (rmY s h off) (lvl (rmY s h off) a))) 12) 5 (rsn (opC s off 12)) (max (a - lev (rmY s h off) (lvl (rmY s h off) a) - mor (rmY s h off) (lvl (rmY s h off) a) 12) 0)
/-- who signed has their tenths -/
def tnS (s : Sp) (l n : Nat) : Int := sm (fun k => (tn s (4 * l + k) : Int)) n
def ten (s : Sp) (O : Oc) (l k : Nat) : Int := O 0 l * (tn s (4 * l + k) : Int) / 10
def due (s : Sp) (O : Oc) (l : Nat) : Int := O 0 l * tnS s l (ng s l) / 10
def tnR (s : Sp) (O : Oc) (l : Nat) : Int := due s O l - sm (ten s O l) (ng s l)
def its (s : Sp) (O : Oc) (l k : Nat) : Int := ten s O l k + if (k : Int) < tnR s O l then 1 else 0
def chg (s : Sp) (O : Oc) (i : Nat) (v : Int) : Oc := if i = 0 then uO O 5 0 (O 5 0 + v) else if sd s i = 1 then uO O 5 5 (O 5 5 + v) else if sd s i = 2 then uO O 5 6 (O 5 6 + v) else uO O 4 i (O 4 i + v)
def spk (s : Sp) (O0 : Oc) (l : Nat) (O : Oc) : Nat → Oc
  | 0 => O
  | k + 1 => chg s (uO (spk s O0 l O k) 3 (4 * l + k) (its s O0 l k)) (sg s (4 * l + k)) (its s O0 l k)
def spl (s : Sp) (O0 : Oc) : Nat → Oc
  | 0 => O0
  | l + 1 => if 0 < O0 0 l then uO (spk s O0 l (spl s O0 l) (ng s l)) 5 4 (spk s O0 l (spl s O0 l) (ng s l) 5 4 + (O0 0 l - due s O0 l)) else spl s O0 l
/-- what comes of an amount before it is split -/
noncomputable def pre (s : Sp) (h : Nat) (off : Nat → Bool) (a : Int) (m : Nat) : Oc :=
  if m = 0 then pyW s h a (wA s off) else if m = 1 then pyW s h a (wS s off) else if m = 2 then ctr (pyF s h off a) (pyW s h a (wA s off) 0) else pyL s h off a
noncomputable def pln (s : Sp) (h : Nat) (off : Nat → Bool) (a : Int) (m : Nat) : Oc := spl s (pre s h off a m) 40
/-- it is added to what a harm has -/
def addO (s : Sp) (h : Nat) (O : Oc) : Sp := (s.1, fun f j =>
  if f = 0 ∧ j < 40 then s.2 0 j + O 0 j
  else if f = 2 ∧ 40 * h ≤ j ∧ j < 40 * h + 40 then s.2 2 j + O 0 (j - 40 * h)
  else if f = 3 ∧ 40 * h ≤ j ∧ j < 40 * h + 40 then s.2 3 j + O 1 (j - 40 * h)
  else if f = 4 ∧ 40 * h ≤ j ∧ j < 40 * h + 40 then s.2 4 j + O 2 (j - 40 * h)
  else if f = 5 ∧ 160 * h ≤ j ∧ j < 160 * h + 160 then s.2 5 j + O 3 (j - 160 * h)
  else if f = 6 ∧ 10 * h ≤ j ∧ j < 10 * h + 10 then s.2 6 j + O 4 (j - 10 * h)
  else if f = 7 ∧ 7 * h ≤ j ∧ j < 7 * h + 7 then s.2 7 j + O 5 (j - 7 * h)
  else s.2 f j)
def offH (s : Sp) (h : Nat) : Nat → Bool := offB (fs s h) (ls s h) (sh s h) (ru s 0)
/-- an amount of a harm is spread -/
noncomputable def sprd (s : Sp) (h : Nat) (a : Int) : Sp := addO s h (pln s h (offH s h) a (ru s 1))
/-- a harm's rows are empty again, what layers took of it is taken back -/
def clrH (s : Sp) (h : Nat) : Sp := (s.1, fun f j =>
  if f = 0 ∧ j < 40 then s.2 0 j - s.2 2 (40 * h + j)
  else if (f = 2 ∨ f = 3 ∨ f = 4) ∧ 40 * h ≤ j ∧ j < 40 * h + 40 then 0
  else if f = 5 ∧ 160 * h ≤ j ∧ j < 160 * h + 160 then 0
  else if f = 6 ∧ 10 * h ≤ j ∧ j < 10 * h + 10 then 0
  else if f = 7 ∧ 7 * h ≤ j ∧ j < 7 * h + 7 then 0
  else s.2 f j)
/-- a layer among those of its year -/
def insP (s : Sp) (y f : Nat) : Nat → Nat
  | 0 => 0
  | k + 1 => if f < fr s (rg s (6 * y + k)) then insP s y f k else k + 1
def rgI (s : Sp) (y l p : Nat) (k : Nat) : Nat := if k < p then rg s (6 * y + k) else if k = p then l else rg s (6 * y + (k - 1))
/-- events: kind, what it tells of, its numbers -/
abbrev Ev : Type := Nat → Nat
def fre (s : Sp) (y f z : Nat) : Prop := ∀ k, k < hg s y → ¬ (f < tp s (rg s (6 * y + k)) ∧ fr s (rg s (6 * y + k)) < f + z)
def tnI (s : Sp) (l : Nat) : Nat → Nat
  | 0 => 0
  | n + 1 => tnI s l n + tn s (4 * l + n)
def can (s : Sp) (e : Ev) : Prop :=
  if e 0 = 0 then lkb s (e 2) = false ∧ hg s (e 2) < 6 ∧ fre s (e 2) (e 3) (e 4)
  else if e 0 = 1 then isL s (e 1) = 1 ∧ ng s (e 1) < 4 ∧ tnI s (e 1) (ng s (e 1)) + e 3 ≤ 10 ∧ us s (e 1) ≤ 0 ∧ ∀ k, k < ng s (e 1) → sg s (4 * e 1 + k) ≠ e 2
  else if e 0 = 2 then lkb s (e 1) = false ∧ hg s (e 1) = 0
  else if e 0 = 5 ∨ e 0 = 8 then isH s (e 1) = 1
  else if e 0 = 6 ∨ e 0 = 7 then sd s (e 1) = 0
  else True
def ptL (s : Sp) (l y f z t : Nat) : Sp :=
  let p := insP s y f (hg s y)
  let r := fun k => rgI s y l p k
  let g := fun q => if q = l then f else fr s q
  let b := fun q => if q = l then z else sz s q
  (fun a j =>
    if a = 0 then (if j = l then 1 else s.1 0 j)
    else if a = 1 then (if j = l then y else s.1 1 j)
    else if a = 2 then g j
    else if a = 3 then b j
    else if a = 4 then (if j = l then t else s.1 4 j)
    else if a = 8 then (if j = y then s.1 8 j + 1 else s.1 8 j)
    else if a = 9 then (if 6 * y ≤ j ∧ j < 6 * y + (hg s y + 1) then r (j - 6 * y) else s.1 9 j)
    else if a = 10 then (if j = l then f - (if p = 0 then 0 else tp s (rg s (6 * y + (p - 1)))) else if p < hg s y ∧ j = rg s (6 * y + p) then fr s j - (f + z) else s.1 10 j)
    else if a = 12 then max (s.1 12 j) (l + 1)
    else s.1 a j, s.2)
noncomputable def doe (s : Sp) (e : Ev) : Sp :=
  if e 0 = 0 then ptL s (e 1) (e 2) (e 3) (e 4) (e 5)
  else if e 0 = 1 then uN' (uN' (uN' s 6 (4 * e 1 + ng s (e 1)) (e 2)) 7 (4 * e 1 + ng s (e 1)) (e 3)) 5 (e 1) (ng s (e 1) + 1)
  else if e 0 = 2 then uN' s 11 0 (lk s ||| 2 ^ (e 1))
  else if e 0 = 3 then uN' (uN' (uN' s 21 0 (e 1)) 21 1 (e 2)) 21 2 (e 3)
  else if e 0 = 4 then sprd (uZ (uN' (uN' (uN' (uN' (uN' s 13 (e 1) 1) 14 (e 1) (e 2)) 15 (e 1) (e 3)) 16 (e 1) (e 4)) 18 0 (max (cH s) (e 1 + 1))) 1 (e 1) (e 5 : Int)) (e 1) (e 5 : Int)
  else if e 0 = 5 then sprd (uZ (uN' s 17 (e 1) (gr s (e 1) + 1)) 1 (e 1) (lo s (e 1) + (e 2 : Int))) (e 1) (e 2 : Int)
  else if e 0 = 6 then uN' (uN' s 19 (e 1) 1) 20 (e 1) (e 2)
  else if e 0 = 7 then uN' (uN' s 19 (e 1) 2) 20 (e 1) 0
  else sprd (clrH s (e 1)) (e 1) (lo s (e 1))
noncomputable def canB (s : Sp) (e : Ev) : Bool := @decide (can s e) (Classical.propDecidable _)
theorem canB_t {s : Sp} {e : Ev} : canB s e = true ↔ can s e := @decide_eq_true_iff _ (Classical.propDecidable _)
noncomputable def go (s : Sp) (e : Ev) : Sp := if canB s e = true then doe s e else s
