/-! ===== the abstract machine: numbers are Int, a reference is the number of its cell (-1 null, -2 the script, -10-k String constant k) ===== -/
abbrev zV : Type := Int ⊕ (Int ⊕ Int)
abbrev zLc : Type := List (Option zV)
abbrev zMm : Type := Int → Int → Int
def zlg : zLc → Nat → Option zV
  | [], _ => none
  | a :: _, 0 => a
  | _ :: t, n + 1 => zlg t n
/-- a long whose second half is written over is gone -/
def zkl : Option zV → Option zV
  | some (.inr (.inl _)) => none
  | v => v
def zls : zLc → Nat → Option zV → zLc
  | [], _, _ => []
  | _ :: t, 0, v => v :: t
  | a :: t, 1, v => zkl a :: zls t 0 v
  | a :: t, n + 2, v => a :: zls t (n + 1) v
def zlL : zLc → Nat → Option zV → zLc
  | [], _, _ => []
  | _ :: t, 0, v => v :: none :: t.tail
  | a :: t, 1, v => zkl a :: zlL t 0 v
  | a :: t, n + 2, v => a :: zlL t (n + 1) v
def zmu (m : zMm) (c i v : Int) : zMm := fun c' i' => if c' = c ∧ i' = i then v else m c' i'
def zw (x : Int) : Int := Int.bmod x 4294967296
def zwl (x : Int) : Int := Int.bmod x 18446744073709551616
def zw8 (x : Int) : Int := Int.bmod x 256
def zw16 (x : Int) : Int := Int.bmod x 65536
def zand (a b : Int) : Int := (Int32.ofInt a &&& Int32.ofInt b).toInt
def zor (a b : Int) : Int := (Int32.ofInt a ||| Int32.ofInt b).toInt
def zxor (a b : Int) : Int := (Int32.ofInt a ^^^ Int32.ofInt b).toInt
def zshl (a b : Int) : Int := (Int32.ofInt a <<< (Int32.ofInt b &&& 31)).toInt
def zshr (a b : Int) : Int := (Int32.ofInt a >>> (Int32.ofInt b &&& 31)).toInt
def zushr (a b : Int) : Int := ((Int32.ofInt a).toUInt32 >>> ((Int32.ofInt b).toUInt32 &&& Int32.toUInt32 31)).toInt32.toInt
def zdiv (a b : Int) : Int := zw (Int.tdiv a b)
def zrem (a b : Int) : Int := zw (a - zw (zdiv a b * b))
def zland (a b : Int) : Int := (Int64.ofInt a &&& Int64.ofInt b).toInt
def zlor (a b : Int) : Int := (Int64.ofInt a ||| Int64.ofInt b).toInt
def zlshl (a b : Int) : Int := (Int64.ofInt a <<< ((Int32.ofInt b).toInt64 &&& 63)).toInt
def zldiv (a b : Int) : Int := zwl (Int.tdiv a b)
def zlrem (a b : Int) : Int := zwl (a - zwl (zldiv a b * b))
def zlcmp (a b : Int) : Int := if a < b then -1 else if a = b then 0 else 1
/-- the cells: kind (1 int, 2 long, 3 byte, 4 boolean, 5 .. 9 references, 100 + c an object of class c), length, references -/
def zsh (c : Int) : Int × Int × List Int := if c < 0 then (0, 0, []) else zSH.getD c.toNat (0, 0, [])
def zkd (c : Int) : Int := (zsh c).1
def zln (c : Int) : Int := (zsh c).2.1
def zrf (c i : Int) : Int := if i < 0 then -1 else (zsh c).2.2.getD i.toNat (-1)
/-- the receiver of a call with n arguments is an object of class v (v below 0: not asked) -/
def zrc : Nat → List zV → Int → Prop
  | 1, .inr (.inr c) :: _, v => v < 0 ∨ zkd c = 100 + v
  | n + 2, _ :: t, v => zrc (n + 1) t v
  | _, _, _ => False
def zcat : List zV → Nat
  | [] => 0
  | .inl _ :: t => zcat t + 1
  | .inr (.inl _) :: t => zcat t + 2
  | .inr (.inr _) :: t => zcat t + 1
def zswt (a : Nat) (x : Int) : Nat := match zSW.getD a (0, [], 0) with
  | (lo, ts, df) => if x < lo then df else ts.getD (x - lo).toNat df
def zibin (op : Nat) (x y : Int) : Int :=
  if op = 26 then zw (x + y) else if op = 27 then zw (x - y) else if op = 28 then zw (x * y) else if op = 31 then zand x y else if op = 32 then zor x y else if op = 33 then zxor x y else if op = 34 then zshl x y else if op = 35 then zshr x y else zushr x y
def zlbin (op : Nat) (x y : Int) : Int :=
  if op = 37 then zwl (x + y) else if op = 38 then zwl (x - y) else if op = 39 then zwl (x * y) else if op = 42 then zland x y else zlor x y
/-- what a comparison says: 0 eq, 1 ne, 2 lt, 3 ge, 4 gt, 5 le -/
def zcnd (k : Nat) (x y : Int) : Prop := match k with
  | 0 => x = y
  | 1 => ¬ x = y
  | 2 => x < y
  | 3 => y ≤ x
  | 4 => y < x
  | _ => x ≤ y
def zcl (E : Nat → List zV → zMm → Option zV → zMm → Prop) (y n : Nat) (s : List zV) (m : zMm) (k : List zV → zMm → Prop) : Prop :=
  n ≤ s.length ∧ zcat (s.drop n) ≤ 8 ∧ ∃ r m', E y (s.take n).reverse m r m' ∧ k (r.toList ++ s.drop n) m'
def zstA (E : Nat → List zV → zMm → Option zV → zMm → Prop) (op a b : Nat) (v : Int) (l : zLc) (s : List zV) (m : zMm) (K : Nat → zLc → List zV → zMm → Prop) (Q : Option zV → zMm → Prop) (k : zLc → List zV → zMm → Prop) : Prop :=
  if op = 1 then (match zlg l a with | some (.inl x) => k l (.inl x :: s) m | _ => False)
  else if op = 2 then (match zlg l a with | some (.inr (.inl x)) => k l (.inr (.inl x) :: s) m | _ => False)
  else if op = 3 then (match zlg l a with | some (.inr (.inr x)) => k l (.inr (.inr x) :: s) m | _ => False)
  else if op = 4 then (match s with | .inl x :: s => k (zls l a (some (.inl x))) s m | _ => False)
  else if op = 5 then (match s with | .inr (.inl x) :: s => k (zlL l a (some (.inr (.inl x)))) s m | _ => False)
  else if op = 6 then (match s with | .inr (.inr x) :: s => k (zls l a (some (.inr (.inr x)))) s m | _ => False)
  else if op = 7 then k l (.inl v :: s) m
  else if op = 8 then k l (.inr (.inl v) :: s) m
  else if op = 9 then k l (.inr (.inr (-10 - a)) :: s) m
  else if op = 10 then (match s with | .inr (.inr c) :: s => zkd c = 100 + a ∧ k l (.inl (m c b) :: s) m | _ => False)
  else if op = 11 then (match s with | .inr (.inr c) :: s => zkd c = 100 + a ∧ k l (.inr (.inl (m c b)) :: s) m | _ => False)
  else if op = 12 then (match s with | .inr (.inr c) :: s => zkd c = 100 + a ∧ k l (.inr (.inr (zrf c b)) :: s) m | _ => False)
  else if op = 13 then (match s with | .inl x :: .inr (.inr c) :: s => zkd c = 100 + a ∧ k l s (zmu m c b x) | _ => False)
  else if op = 14 then (match s with | .inr (.inl x) :: .inr (.inr c) :: s => zkd c = 100 + a ∧ k l s (zmu m c b x) | _ => False)
  else if op = 15 then (match s with | .inl x :: .inr (.inr c) :: s => zkd c = 100 + a ∧ (x = 0 ∨ x = 1) ∧ k l s (zmu m c b x) | _ => False)
  else if op = 16 then (match s with | .inl i :: .inr (.inr c) :: s => zkd c = 1 ∧ (0 ≤ i ∧ i < zln c) ∧ k l (.inl (m c i) :: s) m | _ => False)
  else if op = 17 then (match s with | .inl i :: .inr (.inr c) :: s => (zkd c = 3 ∨ zkd c = 4) ∧ (0 ≤ i ∧ i < zln c) ∧ k l (.inl (m c i) :: s) m | _ => False)
  else if op = 19 then (match s with | .inl i :: .inr (.inr c) :: s => zkd c = 2 ∧ (0 ≤ i ∧ i < zln c) ∧ k l (.inr (.inl (m c i)) :: s) m | _ => False)
  else if op = 20 then (match s with | .inl i :: .inr (.inr c) :: s => (5 ≤ zkd c ∧ zkd c ≤ 9) ∧ (0 ≤ i ∧ i < zln c) ∧ k l (.inr (.inr (zrf c i)) :: s) m | _ => False)
  else if op = 21 then (match s with | .inl x :: .inl i :: .inr (.inr c) :: s => zkd c = 1 ∧ (0 ≤ i ∧ i < zln c) ∧ k l s (zmu m c i x) | _ => False)
  else if op = 22 then (match s with | .inl x :: .inl i :: .inr (.inr c) :: s => (0 ≤ i ∧ i < zln c) ∧ ((zkd c = 3 ∧ k l s (zmu m c i (zw8 x))) ∨ (zkd c = 4 ∧ (x = 0 ∨ x = 1) ∧ k l s (zmu m c i x))) | _ => False)
  else if op = 24 then (match s with | .inr (.inl x) :: .inl i :: .inr (.inr c) :: s => zkd c = 2 ∧ (0 ≤ i ∧ i < zln c) ∧ k l s (zmu m c i x) | _ => False)
  else if op = 25 then (match s with | .inr (.inr c) :: s => (1 ≤ zkd c ∧ zkd c ≤ 4) ∧ k l (.inl (zln c) :: s) m | _ => False)
  else False
def zstB (E : Nat → List zV → zMm → Option zV → zMm → Prop) (op a b : Nat) (v : Int) (l : zLc) (s : List zV) (m : zMm) (K : Nat → zLc → List zV → zMm → Prop) (Q : Option zV → zMm → Prop) (k : zLc → List zV → zMm → Prop) : Prop :=
  if op = 29 then (match s with | .inl y :: .inl x :: s => ¬ y = 0 ∧ k l (.inl (zdiv x y) :: s) m | _ => False)
  else if op = 30 then (match s with | .inl y :: .inl x :: s => ¬ y = 0 ∧ k l (.inl (zrem x y) :: s) m | _ => False)
  else if op ≤ 36 then (match s with | .inl y :: .inl x :: s => k l (.inl (zibin op x y) :: s) m | _ => False)
  else if op = 40 then (match s with | .inr (.inl y) :: .inr (.inl x) :: s => ¬ y = 0 ∧ k l (.inr (.inl (zldiv x y)) :: s) m | _ => False)
  else if op = 41 then (match s with | .inr (.inl y) :: .inr (.inl x) :: s => ¬ y = 0 ∧ k l (.inr (.inl (zlrem x y)) :: s) m | _ => False)
  else if op ≤ 43 then (match s with | .inr (.inl y) :: .inr (.inl x) :: s => k l (.inr (.inl (zlbin op x y)) :: s) m | _ => False)
  else if op = 44 then (match s with | .inl y :: .inr (.inl x) :: s => k l (.inr (.inl (zlshl x y)) :: s) m | _ => False)
  else if op = 45 then (match s with | .inr (.inl y) :: .inr (.inl x) :: s => k l (.inl (zlcmp x y) :: s) m | _ => False)
  else if op = 46 then (match s with | .inl x :: s => k l (.inr (.inl x) :: s) m | _ => False)
  else if op = 47 then (match s with | .inr (.inl x) :: s => k l (.inl (zw x) :: s) m | _ => False)
  else if op = 48 then (match s with | .inl x :: s => k l (.inl (zw8 x) :: s) m | _ => False)
  else if op = 49 then (match s with | .inl x :: s => k l (.inl (zw16 x) :: s) m | _ => False)
  else False
def zstC (E : Nat → List zV → zMm → Option zV → zMm → Prop) (op a b : Nat) (v : Int) (l : zLc) (s : List zV) (m : zMm) (K : Nat → zLc → List zV → zMm → Prop) (Q : Option zV → zMm → Prop) (k : zLc → List zV → zMm → Prop) : Prop :=
  if op = 50 then (match s with | .inl x :: s => k l (.inl x :: .inl x :: s) m | .inr (.inr x) :: s => k l (.inr (.inr x) :: .inr (.inr x) :: s) m | _ => False)
  else if op = 51 then (match s with | .inl y :: .inr (.inr x) :: s => k l (.inl y :: .inr (.inr x) :: .inl y :: .inr (.inr x) :: s) m | _ => False)
  else if op = 52 then (match s with | .inl _ :: s => k l s m | _ => False)
  else if op = 53 then (match zlg l a with | some (.inl x) => k (zls l a (some (.inl (zw (x + v))))) s m | _ => False)
  else if op = 54 then K a l s m
  else if op ≤ 60 then (match s with | .inl y :: .inl x :: s => (zcnd (op - 55) x y → K a l s m) ∧ (¬ zcnd (op - 55) x y → K b l s m) | _ => False)
  else if op ≤ 66 then (match s with | .inl x :: s => (zcnd (op - 61) x 0 → K a l s m) ∧ (¬ zcnd (op - 61) x 0 → K b l s m) | _ => False)
  else if op = 67 then (match s with | .inl x :: s => K (zswt a x) l s m | _ => False)
  else if op = 68 then zrc b s v ∧ zcl E a b s m (fun s m => k l s m)
  else if op = 69 ∨ op = 78 then zcl E a b s m (fun s m => k l s m)
  else if op = 70 then (match s with | [.inl x] => Q (some (.inl x)) m | _ => False)
  else if op = 71 then (match s with | [.inr (.inl x)] => Q (some (.inr (.inl x))) m | _ => False)
  else if op = 72 then (match s with | [] => Q none m | _ => False)
  else if op = 73 then K a l s m
  else if op = 74 then (match s with | .inl i :: .inr (.inr c) :: s => c = -2 ∧ (0 ≤ i ∧ i < m (-2) (-1)) ∧ k l (.inl (m (-2) i) :: s) m | _ => False)
  else if op = 75 then (match s with | .inr (.inr c) :: s => c = -2 ∧ k l (.inl (m (-2) (-1)) :: s) m | _ => False)
  else if op = 76 then (match s with | [.inl x] => (x = 0 ∨ x = 1) ∧ Q (some (.inl x)) m | _ => False)
  else False
def zst (E : Nat → List zV → zMm → Option zV → zMm → Prop) (o : zOp) (l : zLc) (s : List zV) (m : zMm) (K : Nat → zLc → List zV → zMm → Prop) (Q : Option zV → zMm → Prop) (k : zLc → List zV → zMm → Prop) : Prop :=
  if o.1 < 26 then zstA E o.1 o.2.1 o.2.2.1 o.2.2.2 l s m K Q k else if o.1 < 50 then zstB E o.1 o.2.1 o.2.2.1 o.2.2.2 l s m K Q k else zstC E o.1 o.2.1 o.2.2.1 o.2.2.2 l s m K Q k
def zrun (E : Nat → List zV → zMm → Option zV → zMm → Prop) : List zOp → zLc → List zV → zMm → (Nat → zLc → List zV → zMm → Prop) → (Option zV → zMm → Prop) → Prop
  | [], _, _, _, _, _ => False
  | o :: r, l, s, m, K, Q => zst E o l s m K Q (fun l s m => zrun E r l s m K Q)
def zbl (y b : Nat) : List zOp := (zBL.getD y []).getD b []
def zWPn (E : Nat → List zV → zMm → Option zV → zMm → Prop) : Nat → Nat → Nat → zLc → List zV → zMm → (Option zV → zMm → Prop) → Prop
  | 0, _, _, _, _, _, _ => False
  | n + 1, y, b, l, s, m, Q => zrun E (zbl y b) l s m (fun b' l' s' m' => zWPn E n y b' l' s' m' Q) Q
def zWP (E : Nat → List zV → zMm → Option zV → zMm → Prop) (y b : Nat) (l : zLc) (s : List zV) (m : zMm) (Q : Option zV → zMm → Prop) : Prop := ∃ n, zWPn E n y b l s m Q
/-- the locals at a method's entry -/
def zal : List zV → Nat → zLc
  | [], n => List.replicate n none
  | .inl x :: t, n => some (.inl x) :: zal t (n - 1)
  | .inr (.inl x) :: t, n => some (.inr (.inl x)) :: none :: zal t (n - 2)
  | .inr (.inr x) :: t, n => some (.inr (.inr x)) :: zal t (n - 1)
def zmt (y : Nat) : MethodName × ByteArray × Nat × Option FieldType × Nat := zML.getD y zM0
/-- String constants, as lists of signs -/
def zstr : List (List Int) := [[115, 104, 105, 114, 101], [112, 108, 97, 99, 101, 115], [104, 97, 115], [111, 119, 101, 115], [98, 117, 105, 108, 100, 115], [119, 97, 108, 107], [114, 111, 97, 100], [116, 111], [109, 105, 108, 101, 115], [103, 97, 116, 101], [102, 97, 114, 109, 101, 114], [97, 116], [116, 105, 109, 101, 115], [99, 111, 117, 114, 97, 103, 101], [111, 100, 100, 115], [100, 114, 97, 103, 111, 111, 110, 115], [112, 97, 99, 101]]
/-- what is done without a walk: System.arraycopy (int, long), String.length, String.charAt -/
def zpr (y : Nat) (as : List zV) (m : zMm) (r : Option zV) (m' : zMm) : Prop :=
  if y = 1000 then (match as with
    | [.inr (.inr a), .inl i, .inr (.inr c), .inl k, .inl n] => r = none ∧ (zkd a = zkd c ∧ (zkd a = 1 ∨ zkd a = 2)) ∧ (0 ≤ i ∧ 0 ≤ k ∧ 0 ≤ n ∧ i + n ≤ zln a ∧ k + n ≤ zln c) ∧ m' = fun c' j => if c' = c ∧ k ≤ j ∧ j < k + n then m a (i + (j - k)) else m c' j
    | _ => False)
  else if y = 1001 then (match as with
    | [.inr (.inr a)] => m' = m ∧ ∃ k : Nat, k < 17 ∧ a = -10 - (k : Int) ∧ r = some (.inl (zstr.getD k []).length)
    | _ => False)
  else (match as with
    | [.inr (.inr a), .inl i] => m' = m ∧ ∃ k : Nat, k < 17 ∧ a = -10 - (k : Int) ∧ (0 ≤ i ∧ i < ((zstr.getD k []).length : Int)) ∧ r = some (.inl ((zstr.getD k []).getD i.toNat 0))
    | _ => False)
def zEx : Nat → Nat → List zV → zMm → Option zV → zMm → Prop
  | 0, _, _, _, _, _ => False
  | d + 1, y, as, m, r, m' => (1000 ≤ y ∧ zpr y as m r m') ∨ ((y < 1000 ∧ zcat as ≤ (zmt y).2.2.1) ∧ ∃ n, zWPn (zEx d) n y 0 (zal as (zmt y).2.2.1) [] m (fun r' m'' => r' = r ∧ m'' = m'))
