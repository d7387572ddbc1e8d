/-! What the pure methods answer, as functions of Int32 and Int64, in the machine's own operations. A loop is a function of the steps that are left (and the counter). -/
def fNib (w : Int64) (pl : Int32) : Int32 := (((w.toUInt64 >>> ((4 * pl).toInt64.toUInt64 &&& Int64.toUInt64 63)).toInt64).toInt32) &&& 15
def fTurn (w : Int64) (pl b : Int32) : Int64 := w ^^^ (b.toInt64 <<< ((4 * pl).toInt64 &&& 63))
def fVal (w : Int64) : Int32 := (w &&& 65535).toInt32
def fTi1 (a b : Int32) : Nat → Nat → Int32 → Int32
  | 0, _, q => q
  | n+1, k, q => fTi1 a b n (k+1) (if (b >>> (nI k &&& 31)) &&& 1 = 1 then q ^^^ (a <<< (nI k &&& 31)) else q)
def fTi2 : Nat → Int32 → Int32
  | 0, q => q
  | n+1, q => fTi2 n (if (q >>> (nI (n + 1 + 3) &&& 31)) &&& 1 = 1 then q ^^^ (19 <<< ((nI (n + 1 + 3) - 4) &&& 31)) else q)
def fTimes (a b : Int32) : Int32 := fTi2 3 (fTi1 a b 4 0 0)
def fSuI (w : Int64) (j : Int32) : Nat → Int32 → Int32
  | 0, q => q
  | n+1, q => fSuI w j n (fTimes q (1 <<< (j &&& 31)) ^^^ fNib w (nI n))
def fSuO (w : Int64) : Nat → Nat → Int32 → Int32
  | 0, _, q => q
  | n+1, k, q => fSuO w n (k+1) (q ||| (fSuI w (nI k) 8 0 <<< ((4 * nI k) &&& 31)))
def fSums (w : Int64) : Int32 := fSuO w 4 0 0
def fLen : Nat → Int32
  | 0 => 4
  | c+1 => fLen c + (-1)
def fSwI (left pw len : Int32) : Nat → Nat → Int32 → Int32
  | 0, _, q => q
  | n+1, k, q => if nI k < len then fSwI left pw len n (k+1) (q ||| ((fNib left.toInt64 (nI k + 1) ^^^ fTimes (fNib left.toInt64 (nI k)) pw) <<< ((4 * nI k) &&& 31))) else q
def fSwO (places : Int32) : Nat → Nat → Int32 → Nat → Int32
  | 0, _, left, _ => left
  | n+1, k, left, c => if (places >>> (nI k &&& 31)) &&& 1 = 1 then fSwO places n (k+1) (fSwI left (fNib 3160638497 (nI k)) (fLen (c+1)) 4 0 0) (c+1) else fSwO places n (k+1) left c
def fSw (sums places : Int32) : Int32 := fSwO places 8 0 sums 0
def fQu (pr fa : Int32) : Nat → Nat → Int32
  | 0, _ => 0
  | n+1, k => if fTimes (nI k) fa = pr then nI k else fQu pr fa n (k+1)
def fQuot (pr fa : Int32) : Int32 := fQu pr fa 16 0
def fOth (places : Int32) (k : Nat) : Int32 := places &&& ((1 <<< (nI k &&& 31)) ^^^ (-1))
def fFi (sums places : Int32) : Nat → Nat → Int64 → Int64
  | 0, _, w => w
  | n+1, k, w => fFi sums places n (k+1) (if (places >>> (nI k &&& 31)) &&& 1 = 1 then fTurn w (nI k) (fQuot (fSw sums (fOth places k) &&& 15) (fSw (fSums (1 <<< ((4 * nI k).toInt64 &&& 63))) (fOth places k) &&& 15)) else w)
def fFill (w : Int64) (sums places : Int32) : Int64 := fFi sums places 8 0 w
def fOf (v : Int32) : Int64 := fFill v.toInt64 (fSums v.toInt64) 240
def fDi (a b : Int64) : Nat → Nat → Int32 → Int32
  | 0, _, q => q
  | n+1, k, q => fDi a b n (k+1) (if fNib a (nI k) = fNib b (nI k) then q else q + 1)
def fDiff (a b : Int64) : Int32 := fDi a b 8 0 0
def fBit (x : Int32) : Int32 :=
  let a := x - ((x.toUInt32 >>> ((1 : Int32).toUInt32 &&& Int32.toUInt32 31)).toInt32 &&& 1431655765)
  let b := (a &&& 858993459) + ((a.toUInt32 >>> ((2 : Int32).toUInt32 &&& Int32.toUInt32 31)).toInt32 &&& 858993459)
  let c := (b + (b.toUInt32 >>> ((4 : Int32).toUInt32 &&& Int32.toUInt32 31)).toInt32) &&& 252645135
  let d := c + (c.toUInt32 >>> ((8 : Int32).toUInt32 &&& Int32.toUInt32 31)).toInt32
  let e := d + (d.toUInt32 >>> ((16 : Int32).toUInt32 &&& Int32.toUInt32 31)).toInt32
  e &&& 63
def fRe (w : Int64) (sums weak wk : Int32) : Nat → Nat → Int64
  | 0, _ => -1
  | n+1, k => if 2 * fBit (nI k) + wk ≤ 4 ∧ nI k &&& weak = 0 ∧ fSw sums (nI k ||| weak) = 0 then fFill w sums (nI k ||| weak) else fRe w sums weak wk n (k+1)
def fRep (w : Int64) (weak : Int32) : Int64 := fRe w (fSums w) weak (fBit weak) 256 0
def fOb (d : Int32) : Nat → Int32 → Int32 → Int32
  | 0, q, _ => q
  | n+1, q, la => fOb d n (((q <<< (2 &&& 31)) ||| ((if la = 0 ∧ (d >>> (nI n &&& 31)) &&& 1 = 0 then (1 : Int32) else 0) <<< (1 &&& 31))) ||| ((d >>> (nI n &&& 31)) &&& 1)) ((d >>> (nI n &&& 31)) &&& 1)
def fByte (d la : Int32) : Int32 := fOb d 8 0 la
def fDa (cl : Int32) : Nat → Int32 → Int32
  | 0, q => q
  | n+1, q => fDa cl n ((q <<< (1 &&& 31)) ||| ((cl >>> ((2 * nI n) &&& 31)) &&& 1))
def fData (cl : Int32) : Int32 := fDa cl 8 0
def fBetter (a b c d : Int64) : Int32 := if a < c ∨ (a = c ∧ b < d) then 1 else 0
/-! .. and the law's own -/
def gPr (b : Int32) : Nat → Nat → Int32 → Int32 → Int32
  | 0, _, q, _ => q
  | n+1, k, q, lf => gPr b n (k+1) (q ^^^ (((b >>> (nI k &&& 31)) &&& 1) * lf)) (if lf < 8 then 2 * lf else (2 * lf) ^^^ 19)
def gProd (a b : Int32) : Int32 := gPr b 4 0 0 a
def gNib (w : Int64) (pl : Int32) : Int32 := ((w >>> ((4 * pl).toInt64 &&& 63)) &&& 15).toInt32
def gWI (w : Int64) (root : Int32) : Nat → Nat → Int32 → Int32 → Int32
  | 0, _, q, _ => q
  | n+1, k, q, fa => gWI w root n (k+1) (q ^^^ gProd (gNib w (nI k)) fa) (gProd fa root)
def gWO (w : Int64) : Nat → Int32 → Int32 → Int32
  | 0, q, _ => q
  | n+1, q, root => gWO w n (q &&& (if gWI w root 8 0 0 1 = 0 then 1 else 0)) (gProd root 2)
def gIsW (w : Int64) : Int32 := gWO w 4 1 1
def gCe (h : Int32) : Int32 := h ^^^ (h.toUInt32 >>> ((16 : Int32).toUInt32 &&& Int32.toUInt32 31)).toInt32
def gCell (x i : Int32) : Int32 :=
  let h := 69069 * (x + 1009 * i) + 12345
  let g := (h ^^^ (h.toUInt32 >>> ((13 : Int32).toUInt32 &&& Int32.toUInt32 31)).toInt32) * 1103515245
  gCe g
