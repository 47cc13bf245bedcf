/-! what the class's public readers answer -/
def ofPersonA (S : St) (p : Nat) : Nat → Int32
  | 0 => irI (S.bo p)
  | 1 => S.tr p
  | 2 => S.po p
  | 3 => if awayA S p (nI S.td) = 0 then 0 else 1
  | 4 => openA S p
  | 5 => repA S p
  | _ => toApA S p
def ofChargeA (S : St) (c : Nat) : Nat → Int32
  | 0 => nI (S.cp c)
  | 1 => nI (S.ck c)
  | 2 => S.ca c
  | 3 => nI (S.cd c)
  | 4 => S.cs c
  | 5 => irI (S.cr c)
  | 6 => irI (S.ct c)
  | 7 => taxA S c
  | 8 => costA S c 0
  | 9 => nI (S.ce c)
  | 10 => irI (apprA S c)
  | _ => if S.cm c = 0 then 0 else 1
def manyA (S : St) : Nat → Int32
  | 0 => nI S.np
  | 1 => nI S.nt
  | 2 => nI S.nc
  | 3 => inA S 0
  | 4 => inA S 1
  | 5 => inA S 2
  | 6 => inA S 3
  | 7 => inA S 4
  | 8 => nI S.nr
  | 9 => freeA S
  | 10 => nI S.td
  | 11 => amtA S
  | _ => costsA S
def lostQ (S : St) (p : Nat) (e : Int32) (c : Nat) : Int32 := if S.cp c = p then (if S.cs c = 0 then lostA S c e else 0) else 0
def trustA (S : St) (p : Nat) (days : Int32) : Int32 := maxI (S.tr p - sm (lostQ S p (minI (nI S.td + days) 119)) S.nc) 0
def mixL (d : Int64) (v : Int32) : Int64 := d * 31 + v.toInt64
def fl (f : Nat → Int64 → Int64) : Nat → Int64 → Int64
  | 0, d => d
  | n + 1, d => f n (fl f n d)
def pplA (S : St) (a : Int64) : Int64 := fl (fun p d => fl (fun k d => mixL (mixL d (spendA S p k (nI 0))) (spendA S p k (nI 1))) 4 (fl (fun w d => mixL d (ofPersonA S p w)) 7 d)) S.np a
def budA (S : St) (a : Int64) : Int64 := fl (fun k d => fl (fun per d => mixL (mixL d (leftL S k 0 (per + 1))) (leftL S k 1 (per + 1))) 4 d) 4 a
def chgA (S : St) (a : Int64) : Int64 := fl (fun c d => fl (fun w d => mixL d (ofChargeA S c w)) 12 d) S.nc a
def digA (S : St) : Int64 := fl (fun p d => mixL d (trustA S p 20)) S.np (fl (fun r d => mixL d (irI (S.ro r))) S.nr (chgA S (budA S (pplA S (fl (fun w d => mixL d (manyA S w)) 13 58110)))))
def meanA (S : St) : UInt64 := if (if nI S.np = 0 then (1 : Int32) else 0) = 0 then FP.ddiv (FP.i2d (sm S.tr S.np)) (FP.i2d (nI S.np)) else FP.dconst0

