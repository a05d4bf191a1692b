abbrev cvL : Type := (Nat × List (Option Int)) ⊕ Nat
def LAY : List cvL := [
  .inl (11, [some 1, some 2, none, some 39, some 46, some 55, some 57, some 62, some 64, some 70, some 72, some 79]),
  .inl (10, [some 3, some 4, some 5, some 6, some 7, some 8, some 9, some 10, some 11, some 12, some 13, none, none]),
  .inl (10, [some 14, some 15, some 16, some 17, some 18, some 19, some 20, some 21, some 22, some 23, some 24, none, none]),
  .inl (8, [none, none, some 25, none]),
  .inl (8, [none, none, some 26, none]),
  .inl (8, [none, none, some 27, none]),
  .inl (8, [none, none, some 28, none]),
  .inl (8, [none, none, some 29, none]),
  .inl (8, [none, none, some 30, none]),
  .inl (8, [none, none, some 31, none]),
  .inr 64,
  .inr 24,
  .inr 4,
  .inr 12,
  .inl (8, [none, none, some 32, none]),
  .inl (8, [none, none, some 33, none]),
  .inl (8, [none, none, some 34, none]),
  .inl (8, [none, none, some 35, none]),
  .inl (8, [none, none, some 36, none]),
  .inl (8, [none, none, some 37, none]),
  .inl (8, [none, none, some 38, none]),
  .inr 64,
  .inr 24,
  .inr 4,
  .inr 12,
  .inr 40,
  .inr 60,
  .inr 12,
  .inr 32,
  .inr 200,
  .inr 32,
  .inr 40,
  .inr 40,
  .inr 60,
  .inr 12,
  .inr 32,
  .inr 200,
  .inr 32,
  .inr 40,
  .inl (9, [some 1, some 40, some 41, none, none, none, some 42, some 43, some 44, some 45, none, none]),
  .inr 12,
  .inr 12,
  .inr 4,
  .inr 4,
  .inr 4,
  .inr 4,
  .inl (5, [some 1, some 39, some 47, some 50, none, some 51, some 52, some 53, some 54]),
  .inl (0, [some 48, some 49, none]),
  .inr 8,
  .inr 8,
  .inr 3,
  .inr 768,
  .inr 3,
  .inr 3,
  .inr 256,
  .inl (8, [none, none, some 56, none]),
  .inr 24,
  .inl (1, [some 1, some 58, some 61, none]),
  .inl (0, [some 59, some 60, none]),
  .inr 8,
  .inr 8,
  .inr 8,
  .inl (2, [some 1, some 63]),
  .inr 12,
  .inl (7, [some 65, none, some 66, some 67, none, none, some 68]),
  .inr 200,
  .inr 201,
  .inr 201,
  .inl (8, [none, none, some 69, none]),
  .inr 40,
  .inl (3, [some 1, some 71]),
  .inr 5,
  .inl (6, [some 1, some 62, some 73, none, some 74, some 75, some 76, some 77, some 78, none]),
  .inr 6,
  .inr 48,
  .inr 7,
  .inr 8,
  .inr 6,
  .inr 6,
  .inl (4, [some 1, some 80, some 81, some 82, some 83, some 84, some 85, some 86, none, none, none, none]),
  .inr 4,
  .inr 4,
  .inr 160,
  .inr 4,
  .inr 4,
  .inr 4,
  .inr 30,
  .inl (12, [some 88, some 89, some 90, some 91, some 92, some 93, some 94, some 95, some 96, some 97, some 98, none, some 99, some 100, some 101, some 102, some 103, none, none, some 104, some 105, some 106, none, none, some 107, some 108, some 109, some 110, some 111, none, none, none, none, none, none, some 112, some 113, some 114, some 115, some 116, some 117, some 118, none, none, none, some 119, some 120, some 121, some 122, some 123, some 124, some 125, some 126, some 127, some 128, none, none, none, some 129, none, none, none, some 130, none]),
  .inr 8,
  .inr 40,
  .inr 64,
  .inr 24,
  .inr 84,
  .inr 4,
  .inr 12,
  .inr 32,
  .inr 200,
  .inr 32,
  .inr 40,
  .inr 8,
  .inr 4,
  .inr 4,
  .inr 4,
  .inr 4,
  .inr 12,
  .inr 768,
  .inr 8,
  .inr 36,
  .inr 12,
  .inr 12,
  .inr 12,
  .inr 200,
  .inr 40,
  .inr 5,
  .inr 8,
  .inr 6,
  .inr 6,
  .inr 6,
  .inr 8,
  .inr 7,
  .inr 7,
  .inr 8,
  .inr 2048,
  .inr 4,
  .inr 4,
  .inr 160,
  .inr 4,
  .inr 4,
  .inr 4,
  .inr 30,
  .inr 580]
/-! ===== MEANING: int programs over a fixed graph of objects, as partial functions ===== -/
/-- what the cells hold: object or array, slot or place -/
abbrev cvM : Type := Int → Int → Int
/-- locals by their slots -/
abbrev cvE : Type := List (Option Int)
abbrev cvX : Type := cvE → cvM → Option (Int × cvM)
abbrev cvC : Type := cvE → cvM → Option (Bool × cvM)
/-- 0 goes on, 1 break, 2 continue, 3 return; the answer; locals; cells -/
abbrev cvR : Type := Nat × Int × cvE × cvM
abbrev cvS : Type := cvE → cvM → Option cvR
abbrev cvF : Type := List Int → cvM → Option (Int × cvM)
abbrev InR (v : Int) : Prop := -2147483648 ≤ v ∧ v < 2147483648
abbrev InL (v : Int) : Prop := -9223372036854775808 ≤ v ∧ v < 9223372036854775808
def wr (z : Int) : Int := (z + 2147483648) % 4294967296 - 2147483648
def wl (z : Int) : Int := (z + 9223372036854775808) % 18446744073709551616 - 9223372036854775808
def dv (x y : Int) : Int := if 0 ≤ x then x / y else -((-x) / y)
def rmd (x y : Int) : Int := if 0 ≤ x then x % y else -((-x) % y)
def oadd (x y : Int) : Int := wr (x + y)
def osub (x y : Int) : Int := wr (x - y)
def omul (x y : Int) : Int := wr (x * y)
def odiv (x y : Int) : Int := wr (dv x y)
def oneg (x : Int) : Int := wr (-x)
def oand (x y : Int) : Int := (Int32.ofInt x &&& Int32.ofInt y).toInt
def oor (x y : Int) : Int := (Int32.ofInt x ||| Int32.ofInt y).toInt
def oxor (x y : Int) : Int := (Int32.ofInt x ^^^ Int32.ofInt y).toInt
def oshl (x y : Int) : Int := (Int32.ofInt x <<< (Int32.ofInt y &&& 31)).toInt
def oshr (x y : Int) : Int := (Int32.ofInt x >>> (Int32.ofInt y &&& 31)).toInt
def oushr (x y : Int) : Int := ((Int32.ofInt x).toUInt32 >>> ((Int32.ofInt y).toUInt32 &&& Int32.toUInt32 31)).toInt32.toInt
def ob (x : Int) : Int := (x + 128) % 256 - 128
def os (x : Int) : Int := (x + 32768) % 65536 - 32768
def oland (x y : Int) : Int := (Int64.ofInt x &&& Int64.ofInt y).toInt
def olor (x y : Int) : Int := (Int64.ofInt x ||| Int64.ofInt y).toInt
def olshl (x y : Int) : Int := (Int64.ofInt x <<< ((Int32.ofInt y).toInt64 &&& 63)).toInt
def olshr (x y : Int) : Int := (Int64.ofInt x >>> ((Int32.ofInt y).toInt64 &&& 63)).toInt
def olushr (x y : Int) : Int := ((Int64.ofInt x).toUInt64 >>> ((Int32.ofInt y).toInt64.toUInt64 &&& Int64.toUInt64 63)).toInt64.toInt
-- the graph
def layAt (k : Int) : Option cvL := if k < 0 then none else LAY[k.toNat]?
/-- the object to which slot j of k, an object of class c, points -/
def refOf (c j : Nat) (k : Int) : Option Int := match layAt k with
  | some (.inl (c', fs)) => if c' = c then fs.getD j none else none
  | _ => none
/-- slot j of k, an object of class c, is a number -/
def isI (c j : Nat) (k : Int) : Bool := match layAt k with
  | some (.inl (c', fs)) => decide (c' = c) && decide (fs[j]? = some none)
  | _ => false
def lenOf (k : Int) : Option Int := match layAt k with
  | some (.inr n) => some n
  | _ => none
def isOb (c : Nat) (k : Int) : Bool := match layAt k with
  | some (.inl (c', _)) => decide (c' = c)
  | _ => false
def updM (σ : cvM) (k i v : Int) : cvM := fun k' i' => if k' = k ∧ i' = i then v else σ k' i'
-- expressions
def xe_lit (n : Int) : cvX := fun _ σ => some (n, σ)
def xe_loc (k : Nat) : cvX := fun E σ => (E.getD k none).map fun v => (v, σ)
def xe_op (f : Int → Int → Int) (a b : cvX) : cvX := fun E σ => (a E σ).bind fun r => (b E r.2).bind fun q => some (f r.1 q.1, q.2)
def xe_dv (f : Int → Int → Int) (a b : cvX) : cvX := fun E σ => (a E σ).bind fun r => (b E r.2).bind fun q => if q.1 = 0 then none else some (f r.1 q.1, q.2)
def xe_un (f : Int → Int) (a : cvX) : cvX := fun E σ => (a E σ).bind fun r => some (f r.1, r.2)
def xe_gi (c j : Nat) (o : cvX) : cvX := fun E σ => (o E σ).bind fun r => if isI c j r.1 = true then some (r.2 r.1 j, r.2) else none
def xe_gr (c j : Nat) (o : cvX) : cvX := fun E σ => (o E σ).bind fun r => (refOf c j r.1).map fun v => (v, r.2)
/-- place i of an array of n places is looked at -/
def atA (k i : Int) (σ : cvM) : Option (Int × cvM) := (lenOf k).bind fun n => if 0 ≤ i ∧ i < n then some (σ k i, σ) else none
def xe_al (a i : cvX) : cvX := fun E σ => (a E σ).bind fun r => (i E r.2).bind fun q => atA r.1 q.1 q.2
def xe_an (a : cvX) : cvX := fun E σ => (a E σ).bind fun r => (lenOf r.1).map fun n => (n, r.2)
def evs : List cvX → cvE → cvM → Option (List Int × cvM)
  | [], _, σ => some ([], σ)
  | a :: as, E, σ => (a E σ).bind fun r => (evs as E r.2).bind fun q => some (r.1 :: q.1, q.2)
def xe_ca (f : cvF) (as : List cvX) : cvX := fun E σ => (evs as E σ).bind fun r => f r.1 r.2
/-- the script sc of n ints: its places, its length -/
def xe_sc (n : Int) (sc : Int → Int) (i : cvX) : cvX := fun E σ => if E.getD 0 none = some 13 then (i E σ).bind fun q => if 0 ≤ q.1 ∧ q.1 < n then some (sc q.1, q.2) else none else none
def xe_sn (n : Int) : cvX := fun E σ => if E.getD 0 none = some 13 then some (n, σ) else none
/-- texts by their numbers; the row of signs of text t is 14 + t -/
def txL : List (List Int) := [[118, 97, 110], [106, 97, 105, 108], [114, 111, 97, 100], [99, 111, 117, 114, 116], [110, 111, 110, 101], [98, 121], [111, 118, 101, 114], [112, 97, 121, 115], [101, 97, 99, 104], [102, 114, 101, 101], [109, 111, 115, 116], [111, 114], []]
def isTx (t : Int) : Bool := decide (0 ≤ t) && decide (t < 13)
def isTv (t : Int) : Bool := decide (14 ≤ t) && decide (t < 27)
def xe_tv (a : cvX) : cvX := fun E σ => (a E σ).bind fun r => if isTx r.1 = true then some (14 + r.1, r.2) else none
def xe_tz (a : cvX) : cvX := fun E σ => (a E σ).bind fun r => if isTx r.1 = true then some (0, r.2) else none
def xe_vl (a : cvX) : cvX := fun E σ => (a E σ).bind fun r => if isTv r.1 = true then some (((txL.getD (r.1 - 14).toNat []).length : Int), r.2) else none
def xe_vb (a i : cvX) : cvX := fun E σ => (a E σ).bind fun r => (i E r.2).bind fun q => if isTv r.1 = true ∧ 0 ≤ q.1 ∧ q.1 < ((txL.getD (r.1 - 14).toNat []).length : Int) then some ((txL.getD (r.1 - 14).toNat []).getD q.1.toNat 0, q.2) else none
/-- a call on a text -/
def xe_ct (f : cvF) (as : List cvX) : cvX := fun E σ => (evs as E σ).bind fun r => if isTx (r.1.headD 0) = true then f r.1 r.2 else none
def oc (x : Int) : Int := x % 65536
/-- a call on an object of class ci -/
def xe_cv (ci : Nat) (f : cvF) (as : List cvX) : cvX := fun E σ => (evs as E σ).bind fun r => if isOb ci (r.1.headD 0) = true then f r.1 r.2 else none
def xe_if (c : cvC) (a b : cvX) : cvX := fun E σ => (c E σ).bind fun r => if r.1 = true then a E r.2 else b E r.2
-- conditions
def xc_cmp (f : Int → Int → Bool) (a b : cvX) : cvC := fun E σ => (a E σ).bind fun r => (b E r.2).bind fun q => some (f r.1 q.1, q.2)
def xc_not (c : cvC) : cvC := fun E σ => (c E σ).bind fun r => some (!r.1, r.2)
def xc_and (c d : cvC) : cvC := fun E σ => (c E σ).bind fun r => if r.1 = true then d E r.2 else some (false, r.2)
def xc_or (c d : cvC) : cvC := fun E σ => (c E σ).bind fun r => if r.1 = true then some (true, r.2) else d E r.2
def xc_e (a : cvX) : cvC := fun E σ => (a E σ).bind fun r => some (!(decide (r.1 = 0)), r.2)
def xc_if (c d e : cvC) : cvC := fun E σ => (c E σ).bind fun r => if r.1 = true then d E r.2 else e E r.2
def qlt (x y : Int) : Bool := decide (x < y)
def qle (x y : Int) : Bool := decide (x ≤ y)
def qgt (x y : Int) : Bool := decide (y < x)
def qge (x y : Int) : Bool := decide (y ≤ x)
def qeq (x y : Int) : Bool := decide (x = y)
def qne (x y : Int) : Bool := !(decide (x = y))
-- statements
def xs_skip : cvS := fun E σ => some (0, 0, E, σ)
def xs_seq (a b : cvS) : cvS := fun E σ => (a E σ).bind fun r => if r.1 = 0 then b r.2.2.1 r.2.2.2 else some r
def xs_if (c : cvC) (a b : cvS) : cvS := fun E σ => (c E σ).bind fun r => if r.1 = true then a E r.2 else b E r.2
def xs_brk : cvS := fun E σ => some (1, 0, E, σ)
def xs_cnt : cvS := fun E σ => some (2, 0, E, σ)
def xs_ret (a : cvX) : cvS := fun E σ => (a E σ).bind fun r => some (3, r.1, E, r.2)
/-- the answer of a boolean method -/
def xs_retz (a : cvX) : cvS := fun E σ => (a E σ).bind fun r => if r.1 = 0 ∨ r.1 = 1 then some (3, r.1, E, r.2) else none
/-- the answer of a method of chars or bytes -/
def xs_retc (a : cvX) : cvS := fun E σ => (a E σ).bind fun r => if 0 ≤ r.1 ∧ r.1 < 128 then some (3, r.1, E, r.2) else none
def xs_retv : cvS := fun E σ => some (3, 0, E, σ)
def xs_asg (k : Nat) (a : cvX) : cvS := fun E σ => (a E σ).bind fun r => some (0, 0, E.set k (some r.1), r.2)
def xs_exp (a : cvX) : cvS := fun E σ => (a E σ).bind fun r => some (0, 0, E, r.2)
def xs_pf (c j : Nat) (o a : cvX) : cvS := fun E σ => (o E σ).bind fun r => (a E r.2).bind fun q => if isI c j r.1 = true then some (0, 0, E, updM q.2 r.1 j q.1) else none
/-- a field of booleans -/
def xs_pz (c j : Nat) (o a : cvX) : cvS := fun E σ => (o E σ).bind fun r => (a E r.2).bind fun q => if isI c j r.1 = true ∧ (q.1 = 0 ∨ q.1 = 1) then some (0, 0, E, updM q.2 r.1 j q.1) else none
/-- o.j = o.j f a -/
def xs_of (c j : Nat) (o : cvX) (f : Int → Int → Int) (a : cvX) : cvS := fun E σ => (o E σ).bind fun r => if isI c j r.1 = true then (a E r.2).bind fun q => some (0, 0, E, updM q.2 r.1 j (f (r.2 r.1 j) q.1)) else none
def stA (k i v : Int) (E : cvE) (σ : cvM) : Option cvR := (lenOf k).bind fun n => if 0 ≤ i ∧ i < n then some (0, 0, E, updM σ k i v) else none
def xs_as (a i e : cvX) : cvS := fun E σ => (a E σ).bind fun r => (i E r.2).bind fun q => (e E q.2).bind fun z => stA r.1 q.1 z.1 E z.2
/-- a[i] = a[i] f e -/
def xs_oa (a i : cvX) (f : Int → Int → Int) (e : cvX) : cvS := fun E σ => (a E σ).bind fun r => (i E r.2).bind fun q => (atA r.1 q.1 q.2).bind fun w => (e E w.2).bind fun z => stA r.1 q.1 (f w.1 z.1) E z.2
/-- copies n places from the heads of two arrays -/
def xs_cp (a b n : cvX) : cvS := fun E σ => (a E σ).bind fun r => (b E r.2).bind fun q => (n E q.2).bind fun z => (lenOf r.1).bind fun l1 => (lenOf q.1).bind fun l2 => if 0 ≤ z.1 ∧ z.1 ≤ l1 ∧ z.1 ≤ l2 then some (0, 0, E, fun k i => if k = q.1 ∧ 0 ≤ i ∧ i < z.1 then z.2 r.1 i else z.2 k i) else none
-- loops
def itn {S R : Type} (f : S → Option (S ⊕ R)) : Nat → S → Option R
  | 0, _ => none
  | n + 1, s => (f s).bind fun q => match q with
    | .inl s' => itn f n s'
    | .inr r => some r
noncomputable def lp {S R : Type} (f : S → Option (S ⊕ R)) (s : S) : Option R := @dite (Option R) (∃ r n, itn f n s = some r) (Classical.propDecidable _) (fun h => some h.choose) (fun _ => none)
def lpS (c : cvC) (b u : cvS) (s : cvE × cvM) : Option ((cvE × cvM) ⊕ cvR) :=
  (c s.1 s.2).bind fun r => if r.1 = true then (b s.1 r.2).bind fun q => if q.1 = 0 ∨ q.1 = 2 then (u q.2.2.1 q.2.2.2).bind fun w => if w.1 = 0 then some (.inl (w.2.2.1, w.2.2.2)) else none else if q.1 = 1 then some (.inr (0, 0, q.2.2.1, q.2.2.2)) else some (.inr q) else some (.inr (0, 0, s.1, r.2))
noncomputable def xs_lp (c : cvC) (b u : cvS) : cvS := fun E σ => lp (lpS c b u) (E, σ)
/-- what can't go on -/
def xs_thr : cvS := fun _ _ => none
def swT (lo : Int) (bs : List cvS) (bd : cvS) (v : Int) : cvS := if lo ≤ v then bs.getD (v - lo).toNat bd else bd
def swK (bs : List (Int × cvS)) (bd : cvS) (v : Int) : cvS := match bs with
  | [] => bd
  | q :: qs => if v = q.1 then q.2 else swK qs bd v
/-- a switch: what runs for each value; break leaves it -/
def xs_sw (a : cvX) (f : Int → cvS) : cvS := fun E σ => (a E σ).bind fun r => (f r.1 E r.2).bind fun q => if q.1 = 1 then some (0, 0, q.2.2.1, q.2.2.2) else some q
/-- a method: its locals' number, its arguments' kinds (a long takes two slots), whether it answers nothing, its body -/
def enI : List Nat → List Int → cvE
  | κ :: ks, v :: vs => if κ = 2 then some v :: none :: enI ks vs else some v :: enI ks vs
  | _, _ => []
def fnOf (nL : Nat) (ks : List Nat) (vd : Bool) (b : cvS) : cvF := fun as σ => (b (enI ks as ++ List.replicate (nL - (enI ks as).length) none) σ).bind fun r => if r.1 = 3 then some (r.2.1, r.2.2.2) else if vd = true ∧ r.1 = 0 then some (0, r.2.2.2) else none
