/-! the protocol, pictured in the reference's shape: its cells, and lists for its queues and rows -/
abbrev aM : Type := Nat × Nat × Nat × Nat
abbrev aS : Type := (Nat → Nat → Int32) × (Nat → List aM)
def aW (a : aS) (r i : Nat) (v : Int32) : aS := (eup a.1 r i v, a.2)
def aL (a : aS) (q : Nat) (L : List aM) : aS := (a.1, eupA a.2 q L)
def aC (a : aS) (k : Nat) : aS := aW a 153 k (a.1 153 k + 1)
def aCk (a : aS) (k : Nat) : aS :=
  if k = 0 then aC a 1 else if k = 1 then aC a 2 else if k = 2 then aC a 3 else if k = 5 then aC a 4 else if k = 3 ∨ k = 4 then aC a 5 else a
def aPush (a : aS) (q : Nat) (m : aM) : aS := aL a q (a.2 q ++ [m])
def aSend (a : aS) (q k l c n : Nat) : aS := aCk (aPush a q (k, l, c, n)) k
/-- how many bits -/
def aPopN : Nat → Nat → Nat
  | 0, _ => 0
  | f + 1, n => n % 2 + aPopN f (n / 2)
def aPop (x : Int32) : Nat := aPopN 32 x.toBitVec.toNat
/-- a bit of a set -/
def aBit (x : Int32) (i : Nat) : Bool := decide ((x >>> (Int32.ofNat i &&& 31)) &&& 1 = 1)
def aSetB (x : Int32) (i : Nat) : Int32 := x ||| ((1 : Int32) <<< (Int32.ofNat i &&& 31))
def aNt (x : Int32) : Nat := x.toNatClampNeg

/-! the home -/
def aShares (a : aS) (l c : Nat) : aS :=
  if ¬ a.1 126 l = 0 then a
  else if aBit (a.1 125 l) c = true then a
  else aW (if aPop (a.1 125 l) = 2 then aC (aW a 126 l 1) 9 else a) 125 l (aSetB (a.1 125 l) c)
def aForgets (a : aS) (l : Nat) : aS := aW (aW a 125 l 0) 126 l 0
def aGives (a : aS) (l c what : Nat) : aS := aSend a (10 + c) 6 l what (aNt (a.1 123 l))
def aWaits (a : aS) (l kind c n : Nat) : aS := aW (aW (aW a 127 l (Int32.ofNat kind)) 128 l (Int32.ofNat c)) 129 l (Int32.ofNat n)
def aEndW (a : aS) (l c : Nat) : aS := aGives (aForgets (aW (aW a 127 l (-1)) 124 l (Int32.ofNat c)) l) l c 3
def aEndR (a : aS) (l c o : Nat) : aS := aGives (aShares (aShares (aForgets (aW (aW a 127 l (-1)) 124 l (-1)) l) l o) l c) l c 1
def aEnds (a : aS) (l : Nat) : aS :=
  if a.1 129 l ≤ 0 then
    if a.1 127 l = 0 then aEndR a l (aNt (a.1 128 l)) (aNt (a.1 124 l)) else aEndW a l (aNt (a.1 128 l))
  else a
/-- whether x gets a KILL -/
def aKc (a : aS) (l c x : Nat) : Bool := !decide (x = c) && (!decide (a.1 126 l = 0) || aBit (a.1 125 l) x)
def aK1 (a : aS) (l c x : Nat) : aS := if aKc a l c x = true then aSend a (5 + x) 5 l c 0 else a
def aKills (a : aS) (l c : Nat) : aS := aK1 (aK1 (aK1 (aK1 a l c 0) l c 1) l c 2) l c 3
def aKn1 (a : aS) (l c x : Nat) : Nat := if aKc a l c x = true then 1 else 0
def aKn (a : aS) (l c : Nat) : Nat := aKn1 a l c 0 + aKn1 a l c 1 + aKn1 a l c 2 + aKn1 a l c 3
def aDoP (a : aS) (l c n : Nat) : aS :=
  aSend (if a.1 124 l = Int32.ofNat c then aW (aW a 123 l (Int32.ofNat n)) 124 l (-1) else a) (10 + c) 7 l c 0
def aDoO (a : aS) (kind l c : Nat) : aS :=
  aWaits (aSend a (5 + aNt (a.1 124 l)) (if kind = 0 then 3 else 4) l c 0) l kind c 1
def aDoR (a : aS) (l c : Nat) : aS :=
  if a.1 126 l = 0 ∧ a.1 125 l = 0 then aGives (aW a 124 l (Int32.ofNat c)) l c 2 else aGives (aShares a l c) l c 1
def aDoW (a : aS) (kind l c : Nat) : aS := aEnds (aWaits (aKills a l c) l kind c (aKn a l c)) l
def aDoes (a : aS) (kind l c n : Nat) : aS :=
  if kind = 2 then aDoP a l c n
  else if a.1 124 l = -1 ∨ a.1 124 l = Int32.ofNat c then (if kind = 0 then aDoR a l c else aDoW a kind l c)
  else aDoO a kind l c
def aGoes : Nat → aS → Nat → aS
  | 0, a, _ => a
  | n + 1, a, l => if a.1 127 l = -1 then (match a.2 (15 + l) with
    | [] => a
    | m :: ms => aGoes n (aDoes (aL a (15 + l) ms) m.1 l m.2.2.1 m.2.2.2) l) else a
def aReq (a : aS) (m : aM) : aS := aGoes ((a.2 (15 + m.2.1)).length + 2) (aPush a (15 + m.2.1) m) m.2.1
def aAnsH (a : aS) (m : aM) : aS := aEnds (aW (if m.1 = 8 then aW a 123 m.2.1 (Int32.ofNat m.2.2.2) else a) 129 m.2.1 (a.1 129 m.2.1 - 1)) m.2.1
def aAnsw (a : aS) (m : aM) : aS := aGoes ((a.2 (15 + m.2.1)).length + 1) (aAnsH a m) m.2.1

/-! the cores -/
def aWt (s : Int32) : Bool := decide (s = 4) || decide (s = 5)
def aOwn (s : Int32) : Bool := decide (s = 2) || decide (s = 3)
def aAt (a : aS) (c l p : Nat) : Bool := !decide (a.1 136 (4 * c + p) = 0) && decide (a.1 135 (4 * c + p) = Int32.ofNat l)
def aPl (a : aS) (c l : Nat) : Option Nat :=
  if aAt a c l 0 = true then some 0 else if aAt a c l 1 = true then some 1 else if aAt a c l 2 = true then some 2 else if aAt a c l 3 = true then some 3 else none
def aEp (a : aS) (c : Nat) : Option Nat :=
  if a.1 136 (4 * c + 0) = 0 then some 0 else if a.1 136 (4 * c + 1) = 0 then some 1 else if a.1 136 (4 * c + 2) = 0 then some 2 else if a.1 136 (4 * c + 3) = 0 then some 3 else none
def aIsIn (a : aS) (c l : Nat) : Bool := !decide (a.1 145 c = 0) && aBit (a.1 148 c ||| a.1 149 c) l
def aMay (a : aS) (c p : Nat) : Bool := !decide (a.1 136 (4 * c + p) = 0) && (!aWt (a.1 136 (4 * c + p)) && !aIsIn a c (aNt (a.1 135 (4 * c + p))))
def aVicS (a : aS) (c : Nat) (f : Option Nat) (p : Nat) : Option Nat :=
  if aMay a c p = true then (match f with
    | none => some p
    | some g => if a.1 138 (4 * c + p) < a.1 138 (4 * c + g) then some p else some g) else f
def aVic (a : aS) (c : Nat) : Option Nat := aVicS a c (aVicS a c (aVicS a c (aVicS a c none 0) 1) 2) 3
def aVac (a : aS) (c P : Nat) : aS :=
  if a.1 136 P = 1 then aW a 136 P 0
  else aW (aSend (aW a 141 (16 * c + aNt (a.1 135 P)) (a.1 137 P)) 4 2 (aNt (a.1 135 P)) c (aNt (a.1 137 P))) 136 P 0
def aBeg (a : aS) (c P l : Nat) (w : Bool) : aS :=
  aSend (aW (aW (aW (aW a 135 P (Int32.ofNat l)) 136 P (if w = true then 5 else 4)) 139 P 0) 140 P (-1)) 4 (if w = true then 1 else 0) l c 0
def aAsk (a : aS) (c l : Nat) (w : Bool) : Bool × aS :=
  if a.1 141 (16 * c + l) = -1 then
    (match aPl a c l with
    | some p => if a.1 136 (4 * c + p) = 1 ∧ w = true then (true, aBeg a c (4 * c + p) l w) else (false, a)
    | none => match aEp a c with
      | some p => (true, aBeg a c (4 * c + p) l w)
      | none => match aVic a c with
        | some p => (true, aBeg (aVac a c (4 * c + p)) c (4 * c + p) l w)
        | none => (false, a))
  else (false, a)
def aUse (a : aS) (P : Nat) : aS := aW (aW a 122 18 (a.1 122 18 + 1)) 138 P (a.1 122 18 + 1)
def aChg (a : aS) (P : Nat) (v : Int32) : aS := aUse (aW (aW a 136 P 3) 137 P v) P
def aAns (a : aS) (c l : Nat) (v : Int32) : aS := if v = -1 then aSend a 14 9 l c 0 else aSend a 14 8 l c (aNt v)
def aFetL (a : aS) (c l : Nat) : aS := if a.1 141 (16 * c + l) = -1 then a else aAns a c l (a.1 141 (16 * c + l))
def aFet (a : aS) (c l k : Nat) : aS :=
  match aPl a c l with
  | some p => if aWt (a.1 136 (4 * c + p)) = true then aW a 140 (4 * c + p) (Int32.ofNat k)
    else if aOwn (a.1 136 (4 * c + p)) = true then aW (aAns a c l (a.1 137 (4 * c + p))) 136 (4 * c + p) (if k = 3 then 1 else 0)
    else aFetL a c l
  | none => aFetL a c l
def aBrk (a : aS) (c l k : Nat) : aS :=
  if aIsIn a c l = true ∧ (k = 3 → aBit (a.1 149 c) l = true) then aW a 146 c 1 else a
def aDatS (a : aS) (P what n : Nat) : aS :=
  aW (aUse (aW (aW (aW a 137 P (Int32.ofNat n)) 136 P (if what = 1 ∧ ¬ a.1 139 P = 0 ∧ a.1 136 P = 4 then 0 else Int32.ofNat what)) 139 P 0) P) 140 P (-1)
def aDat (a : aS) (c l P what n : Nat) : aS :=
  if a.1 140 P = -1 then aDatS a P what n else aFet (aDatS a P what n) c l (aNt (a.1 140 P))
def aKilS (a : aS) (c l : Nat) : aS :=
  match aPl a c l with
  | some p => if a.1 136 (4 * c + p) = 1 then aW a 136 (4 * c + p) 0 else if a.1 136 (4 * c + p) = 4 then aW a 139 (4 * c + p) 1 else a
  | none => a
def aKil (a : aS) (c l : Nat) : aS := aAns (aKilS (aBrk a c l 5) c l) c l (-1)
def aCore (a : aS) (c : Nat) (m : aM) : aS :=
  if m.1 = 7 then aW a 141 (16 * c + m.2.1) (-1)
  else if m.1 = 6 then (match aPl a c m.2.1 with
    | some p => aDat a c m.2.1 (4 * c + p) m.2.2.1 m.2.2.2
    | none => a)
  else if m.1 = 5 then aKil a c m.2.1
  else aFet (aBrk a c m.2.1 m.1) c m.2.1 m.1
/-- what a delivered message does; q is its queue -/
def aGot (a : aS) (q : Nat) (m : aM) : aS :=
  if q = 4 then aReq a m else if q = 14 then aAnsw a m else aCore a (q % 5) m
def aDel (a : aS) (q : Nat) : aS :=
  match a.2 q with
  | [] => a
  | m :: ms => aGot (aL a q ms) q m

/-! the calls: what is thrown, the answer, the state -/
abbrev aR : Type := Int32 × Int32 × aS
def aFull (a : aS) (c l : Nat) : Bool := !decide (a.1 145 c = 0) && (!aIsIn a c l && decide (aPop (a.1 148 c ||| a.1 149 c) = 4))
def aBufS (a : aS) (c l : Nat) (f : Int32) (k : Nat) : Int32 :=
  if Int32.ofNat k < a.1 142 c ∧ a.1 143 (4 * c + k) = Int32.ofNat l then a.1 144 (4 * c + k) else f
def aBuf (a : aS) (c l : Nat) : Int32 := aBufS a c l (aBufS a c l (aBufS a c l (aBufS a c l (-1) 0) 1) 2) 3
/-- the line that is asked for ahead, with its place -/
def aAhd (a : aS) (c l : Nat) : Option (Nat × Nat) :=
  if Int32.ofNat l - a.1 151 c = a.1 152 c ∧ ¬ a.1 152 c = 0 ∧ ¬ Int32.ofNat l + a.1 152 c < 0 ∧ Int32.ofNat l + a.1 152 c < 16 then
    (match aPl a c (aNt (Int32.ofNat l + a.1 152 c)) with
    | some _ => none
    | none => if a.1 141 (16 * c + aNt (Int32.ofNat l + a.1 152 c)) = -1 then
        (match aEp a c with
        | some p => some (aNt (Int32.ofNat l + a.1 152 c), p)
        | none => none) else none)
  else none
def aRd (a : aS) (c l : Nat) : aS :=
  if a.1 151 c = -1 then aW a 151 c (Int32.ofNat l)
  else match aAhd a c l with
    | some (h, p) => aW (aC (aBeg (aW a 152 c (Int32.ofNat l - a.1 151 c)) c (4 * c + p) h false) 6) 151 c (Int32.ofNat l)
    | none => aW (aW a 152 c (Int32.ofNat l - a.1 151 c)) 151 c (Int32.ofNat l)
def aMiss (a : aS) (c l : Nat) : aS :=
  if (aAsk a c l false).1 = true ∧ a.1 145 c = 0 then aRd (aAsk a c l false).2 c l else (aAsk a c l false).2
def aHitS (a : aS) (c l P : Nat) : aS := if a.1 145 c = 0 then aC (aUse a P) 0 else aW (aC (aUse a P) 0) 148 c (aSetB (a.1 148 c) l)
def aLoad (a : aS) (c l : Nat) : aR :=
  if aFull a c l = true then (2, 0, a)
  else if ¬ a.1 145 c = 0 ∧ aBit (a.1 149 c) l = true then (0, a.1 150 (16 * c + l), a)
  else if aBuf a c l = -1 then
    (match aPl a c l with
    | some p => if aWt (a.1 136 (4 * c + p)) = true then (0, -1, aMiss a c l) else (0, a.1 137 (4 * c + p), aHitS a c l (4 * c + p))
    | none => (0, -1, aMiss a c l))
  else (0, aBuf a c l, a)
def aStore (a : aS) (c l : Nat) (v : Int32) : aR :=
  if v < 0 ∨ 999 < v then (2, 0, a)
  else if a.1 145 c = 0 then
    (if a.1 142 c = 4 then (3, 0, a)
    else (0, a.1 142 c + 1, aW (aW (aW a 143 (4 * c + aNt (a.1 142 c)) (Int32.ofNat l)) 144 (4 * c + aNt (a.1 142 c)) v) 142 c (a.1 142 c + 1)))
  else if aFull a c l = true then (3, 0, a)
  else (0, Int32.ofNat (aPop (aSetB (a.1 149 c) l)), aW (aW a 149 c (aSetB (a.1 149 c) l)) 150 (16 * c + l) v)
def aStAt (a : aS) (c l : Nat) : Int32 := match aPl a c l with
  | some p => a.1 136 (4 * c + p)
  | none => 0
def aShf1 (a : aS) (c k : Nat) : aS :=
  if Int32.ofNat k < a.1 142 c then aW (aW a 143 (4 * c + k) (a.1 143 (4 * c + (k + 1)))) 144 (4 * c + k) (a.1 144 (4 * c + (k + 1))) else a
def aShf (a : aS) (c : Nat) : aS := aShf1 (aShf1 (aShf1 (aW a 142 c (a.1 142 c - 1)) c 0) c 1) c 2
def aDrain (a : aS) (c : Nat) : aR :=
  if a.1 142 c = 0 then (0, 0, a)
  else match aPl a c (aNt (a.1 143 (4 * c))) with
    | some p => if aOwn (a.1 136 (4 * c + p)) = true then (0, 1, aShf (aChg a (4 * c + p) (a.1 144 (4 * c))) c)
      else (0, 0, (aAsk a c (aNt (a.1 143 (4 * c))) true).2)
    | none => (0, 0, (aAsk a c (aNt (a.1 143 (4 * c))) true).2)
def aAdd (a : aS) (c l : Nat) (b : Int32) : aR :=
  if b < 1 ∨ 9 < b then (2, 0, a)
  else if a.1 142 c = 0 ∧ a.1 145 c = 0 then
    (match aPl a c l with
    | some p => if aOwn (a.1 136 (4 * c + p)) = true then
        (0, a.1 137 (4 * c + p), aChg a (4 * c + p) ((a.1 137 (4 * c + p) + b) - (a.1 137 (4 * c + p) + b) / 1000 * 1000))
      else (0, -1, (aAsk a c l true).2)
    | none => (0, -1, (aAsk a c l true).2))
  else (3, 0, a)
def aBegin (a : aS) (c : Nat) : aR :=
  if a.1 145 c = 0 ∧ a.1 142 c = 0 then (0, a.1 147 c, aW (aW (aW (aW a 145 c 1) 146 c 0) 148 c 0) 149 c 0)
  else (2, 0, a)
/-- whether a line that the transaction stores to is owned -/
def aOwd (a : aS) (c l : Nat) : Bool := !aBit (a.1 149 c) l || aOwn (aStAt a c l)
def aAreN (a : aS) (c : Nat) : Nat → Nat → Bool → Bool
  | 0, _, r => r
  | n + 1, l, r => aAreN a c n (l + 1) (r && aOwd a c l)
def aAre (a : aS) (c : Nat) : Bool := aAreN a c 16 0 true
def aEnW (a : aS) (c : Nat) : Nat → Nat → aS
  | 0, _ => a
  | n + 1, l => aEnW (if aBit (a.1 149 c) l = true then (match aPl a c l with
      | some p => aChg a (4 * c + p) (a.1 150 (16 * c + l))
      | none => a) else a) c n (l + 1)
def aEnA (a : aS) (c : Nat) : Nat → Nat → aS
  | 0, _ => a
  | n + 1, l => aEnA (if aOwd a c l = true then a else (aAsk a c l true).2) c n (l + 1)
def aEnd (a : aS) (c : Nat) : aR :=
  if a.1 145 c = 0 then (2, 0, a)
  else if a.1 146 c = 0 then
    (if aAre a c = true then (0, 1, aC (aW (aEnW a c 16 0) 145 c 0) 7) else (0, -1, aEnA a c 16 0))
  else (0, 0, aC (aW (aW a 145 c 0) 147 c (a.1 147 c + 1)) 8)
def aPm1 (s : Nat × aS) (q : Nat) : Nat × aS := if (s.2.2 q).isEmpty = true then s else (s.1 + 1, aDel s.2 q)
def aPmR (s : Nat × aS) : Nat × aS := [10, 11, 12, 13, 14, 5, 6, 7, 8, 9, 0, 1, 2, 3, 4].foldl aPm1 s
def aPm : Nat → Nat × aS → Nat × aS
  | 0, s => s
  | n + 1, s => aPm n (aPmR s)

/-! what the pictured steps leave alone -/
section EPA
variable {a : aS} {r i l q c k n o w : Nat} {v : Int32} {L : List aM} {m : aM}
theorem aW_1 {r' : Nat} (h : ¬ r' = r) : (aW a r i v).1 r' = a.1 r' := by
  show eup a.1 r i v r' = _
  funext k
  unfold eup
  rw [if_neg (fun q => h q.1)]
theorem aW_2 : (aW a r i v).2 = a.2 := rfl
theorem aW_e : (aW a r i v).1 r i = v := by
  show eup a.1 r i v r i = v
  unfold eup
  rw [if_pos ⟨rfl, rfl⟩]
theorem aW_k {k : Nat} (h : ¬ k = i) : (aW a r i v).1 r k = a.1 r k := by
  show eup a.1 r i v r k = _
  unfold eup
  rw [if_neg (fun q => h q.2)]
theorem aL_1 : (aL a q L).1 = a.1 := rfl
theorem aL_e : (aL a q L).2 q = L := by
  show eupA a.2 q L q = L
  unfold eupA
  rw [if_pos rfl]
theorem aL_k {q' : Nat} (h : ¬ q' = q) : (aL a q L).2 q' = a.2 q' := by
  show eupA a.2 q L q' = _
  unfold eupA
  rw [if_neg h]
theorem aC_1 (h : ¬ r = 153) : (aC a k).1 r = a.1 r := aW_1 h
theorem aC_2 : (aC a k).2 = a.2 := rfl
theorem aCk_1 (h : ¬ r = 153) : (aCk a k).1 r = a.1 r := by
  unfold aCk
  repeat' split
  all_goals first | exact aC_1 h | rfl
theorem aCk_2 : (aCk a k).2 = a.2 := by
  unfold aCk
  repeat' split
  all_goals rfl
theorem aSend_1 (h : ¬ r = 153) : (aSend a q k l c n).1 r = a.1 r := by
  unfold aSend
  rw [aCk_1 h]
  rfl
theorem aSend_2 : (aSend a q k l c n).2 = eupA a.2 q (a.2 q ++ [(k, l, c, n)]) := by
  unfold aSend
  rw [aCk_2]
  rfl
theorem aSend_e : (aSend a q k l c n).2 q = a.2 q ++ [(k, l, c, n)] := by
  rw [aSend_2]
  unfold eupA
  rw [if_pos rfl]
theorem aSend_k {q' : Nat} (h : ¬ q' = q) : (aSend a q k l c n).2 q' = a.2 q' := by
  rw [aSend_2]
  unfold eupA
  rw [if_neg h]
theorem aShares_1 (h : ¬ r = 125) (h2 : ¬ r = 126) (h3 : ¬ r = 153) : (aShares a l c).1 r = a.1 r := by
  unfold aShares
  split
  · rfl
  · split
    · rfl
    · rw [aW_1 h]
      split
      · rw [aC_1 h3, aW_1 h2]
      · rfl
theorem aShares_2 : (aShares a l c).2 = a.2 := by
  unfold aShares
  split
  · rfl
  · split
    · rfl
    · rw [aW_2]
      split
      · rfl
      · rfl
theorem aForgets_1 (h : ¬ r = 125) (h2 : ¬ r = 126) : (aForgets a l).1 r = a.1 r := by
  unfold aForgets
  rw [aW_1 h2, aW_1 h]
theorem aForgets_2 : (aForgets a l).2 = a.2 := rfl
theorem aGives_1 (h : ¬ r = 153) : (aGives a l c w).1 r = a.1 r := aSend_1 h
theorem aWaits_1 (h : ¬ r = 127) (h2 : ¬ r = 128) (h3 : ¬ r = 129) : (aWaits a l k c n).1 r = a.1 r := by
  unfold aWaits
  rw [aW_1 h3, aW_1 h2, aW_1 h]
theorem aWaits_2 : (aWaits a l k c n).2 = a.2 := rfl
theorem aK1_1 {x : Nat} (h : ¬ r = 153) : (aK1 a l c x).1 r = a.1 r := by
  unfold aK1
  split
  · exact aSend_1 h
  · rfl
theorem aKills_1 (h : ¬ r = 153) : (aKills a l c).1 r = a.1 r := by
  unfold aKills
  rw [aK1_1 h, aK1_1 h, aK1_1 h, aK1_1 h]
theorem aUse_1 (h : ¬ r = 122) (h2 : ¬ r = 138) : (aUse a i).1 r = a.1 r := by
  unfold aUse
  rw [aW_1 h2, aW_1 h]
theorem aUse_2 : (aUse a i).2 = a.2 := rfl
theorem aAns_1 (h : ¬ r = 153) : (aAns a c l v).1 r = a.1 r := by
  unfold aAns
  split
  · exact aSend_1 h
  · exact aSend_1 h
theorem aBrk_1 (h : ¬ r = 146) : (aBrk a c l k).1 r = a.1 r := by
  unfold aBrk
  split
  · exact aW_1 h
  · rfl
theorem aBrk_2 : (aBrk a c l k).2 = a.2 := by
  unfold aBrk
  split
  · rfl
  · rfl
end EPA
