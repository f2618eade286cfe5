def Mo_is (v0 : Int32) (v1 : Int32) : Int32 :=
  if v0 < 0 then
    0
  else
    if v1 < v0 then
      0
    else
      1

def Mo_within_b36 (k27 : Int32 → Int32 → Int32 → Mem → Option Int32) : Nat → Int32 → Int32 → Int32 → Int32 → Mem → Option Int32
  | 0, _, _, _, _, _ => none
  | n + 1, v3, v4, v5, v6, σ =>
    if 4 ≤ v6 then
      k27 v3 v4 (v5 + 1) σ
    else
      if ¬ ((v3 >>> (v6 &&& 31)) &&& 1) = 1 then
        (Mo_within_b36 k27 n) v3 v4 v5 (v6 + 1) σ
      else
        if pmIn (v4 + v6) 16 = true then
        (Mo_within_b36 k27 n) (v3 ||| (σ 1 (v4 + v6).toNatClampNeg)) v4 v5 (v6 + 1) σ
        else none

def Mo_within_b27  : Nat → Int32 → Int32 → Int32 → Mem → Option Int32
  | 0, _, _, _, _ => none
  | n + 1, v3, v4, v5, σ =>
    if 4 ≤ v5 then
      some v3
    else
      Mo_within_b36 (Mo_within_b27 n) FU v3 v4 v5 0 σ

def Mo_within (v1 : Int32) (v2 : Int32) (σ : Mem) : Option Int32 :=
  if pmIn ((4 * v1) + v2) 16 = true then
  if 2 ≤ v1 then
    Mo_within_b27 FU (σ 1 ((4 * v1) + v2).toNatClampNeg) 12 0 σ
  else
    Mo_within_b27 FU (σ 1 ((4 * v1) + v2).toNatClampNeg) 4 0 σ
  else none

def Mo_join_b52 (v1 : Int32) (v2 : Int32) (v3 : Int32) (σ : Mem) : Option (Int32 × Mem) :=
  if pmIn ((4 * v1) + v2) 16 = true then
  if pmIn ((4 * v1) + v2) 16 = true then
  some (1, (mput σ 1 ((4 * v1) + v2).toNatClampNeg ((σ 1 ((4 * v1) + v2).toNatClampNeg) ||| (1 <<< (v3 &&& 31)))))
  else none
  else none

def Mo_join (v1 : Int32) (v2 : Int32) (v3 : Int32) (σ : Mem) : Option (Int32 × Mem) :=
  if (Mo_is v1 3) = 0 then
    some (0, σ)
  else
    if (Mo_is v2 3) = 0 then
      some (0, σ)
    else
      if (Mo_is v3 3) = 0 then
        some (0, σ)
      else
        if ¬ (v1 - v1 / 2 * 2) = 1 then
          Mo_join_b52 v1 v2 v3 σ
        else
          if v2 = v3 then
            some (0, σ)
          else
            (Mo_within v1 v3 σ).bind fun q39 =>
            if ¬ ((q39 >>> (v2 &&& 31)) &&& 1) = 1 then
              Mo_join_b52 v1 v2 v3 σ
            else
              some (0, σ)

def Mo_leave (v1 : Int32) (v2 : Int32) (v3 : Int32) (σ : Mem) : Option (Int32 × Mem) :=
  if (Mo_is v1 3) = 0 then
    some (0, σ)
  else
    if (Mo_is v2 3) = 0 then
      some (0, σ)
    else
      if (Mo_is v3 3) = 0 then
        some (0, σ)
      else
        if pmIn ((4 * v1) + v2) 16 = true then
        if ¬ (((σ 1 ((4 * v1) + v2).toNatClampNeg) >>> (v3 &&& 31)) &&& 1) = 0 then
          if pmIn ((4 * v1) + v2) 16 = true then
          if pmIn ((4 * v1) + v2) 16 = true then
          some (1, (mput σ 1 ((4 * v1) + v2).toNatClampNeg ((σ 1 ((4 * v1) + v2).toNatClampNeg) &&& ((1 <<< (v3 &&& 31)) ^^^ (-1)))))
          else none
          else none
        else
          some (0, σ)
        else none

def Mo_mark (v1 : Int32) (v2 : Int32) (v3 : Int32) (σ : Mem) : Option (Int32 × Mem) :=
  if (Mo_is v1 3) = 0 then
    some (0, σ)
  else
    if (Mo_is v2 3) = 0 then
      some (0, σ)
    else
      if v3 < (-1) then
        some (0, σ)
      else
        if v3 ≤ 7 then
          if pmIn ((4 * v1) + v2) 16 = true then
          some (1, (mput σ 2 ((4 * v1) + v2).toNatClampNeg v3))
          else none
        else
          some (0, σ)

def Mo_thing (v1 : Int32) (v2 : Int32) (v3 : Int32) (σ : Mem) : Option (Int32 × Mem) :=
  if (Mo_is v1 3) = 0 then
    some (0, σ)
  else
    if (Mo_is v2 7) = 0 then
      some (0, σ)
    else
      if ¬ (Mo_is v3 3) = 0 then
        if pmIn v1 4 = true then
        if pmIn v1 4 = true then
        some (1, (mput (mput σ 3 v1.toNatClampNeg v2) 4 v1.toNatClampNeg v3))
        else none
        else none
      else
        some (0, σ)

def Mo_isIn_b9 (v1 : Int32) (v2 : Int32) (v3 : Int32) (σ : Mem) : Option Int32 :=
  if (Mo_is v2 3) = 0 then
    some 0
  else
    if (Mo_is v3 3) = 0 then
      some 0
    else
      (Mo_within v1 v2 σ).bind fun q28 =>
      if ¬ ((q28 >>> (v3 &&& 31)) &&& 1) = 1 then
        some 0
      else
        some 1

def Mo_isIn (v1 : Int32) (v2 : Int32) (v3 : Int32) (σ : Mem) : Option Int32 :=
  if v1 = 0 then
    Mo_isIn_b9 v1 v2 v3 σ
  else
    if ¬ v1 = 2 then
      some 0
    else
      Mo_isIn_b9 v1 v2 v3 σ

def Mo_put_b32  : Nat → Int64 → Int32 → Int32 → Mem → Option (Int32 × Mem)
  | 0, _, _, _, _ => none
  | n + 1, v1, v3, v4, σ =>
    if v3 ≤ v4 then
      some ((σ 0 4), σ)
    else
      if pmIn (σ 0 4) 160 = true then
      (Mo_put_b32 n) v1 v3 (v4 + 1) (mput (mput σ 5 (σ 0 4).toNatClampNeg ((v1 >>> ((8 * v4).toInt64 &&& 63)) &&& 255).toInt32) 0 4 (((mput σ 5 (σ 0 4).toNatClampNeg ((v1 >>> ((8 * v4).toInt64 &&& 63)) &&& 255).toInt32) 0 4) + 1))
      else none

def Mo_put (v1 : Int64) (v3 : Int32) (σ : Mem) : Option (Int32 × Mem) :=
  if v3 < 1 then
    some ((-2), σ)
  else
    if v3 ≤ 8 then
      if ((σ 0 4) + v3) ≤ 160 then
        Mo_put_b32 FU v1 v3 0 σ
      else
        some ((-3), σ)
    else
      some ((-2), σ)

def Mo_wipe (σ : Mem) : Option (Int32 × Mem) :=
  some ((σ 0 4), (mput σ 0 4 0))

def Mo_blame_b19 (s1 : Int32) (σ : Mem) : Option Mem :=
  some (mput σ 0 15 s1)

def Mo_blame (v1 : Int32) (σ : Mem) : Option Mem :=
  if ¬ (σ 0 15) = 0 then
    Mo_blame_b19 (σ 0 15) σ
  else
    Mo_blame_b19 ((-10) - v1) σ

def Mo_wrongType_b20 (s1 : Int32) (σ : Mem) : Option Mem :=
  some (mput σ 0 15 s1)

def Mo_wrongType (v1 : Int32) (σ : Mem) : Option Mem :=
  if ¬ (σ 0 15) = 0 then
    Mo_wrongType_b20 (σ 0 15) σ
  else
    Mo_wrongType_b20 ((-1000) - v1) σ

def Mo_here_b19 (σ : Mem) : Option (Int32 × Mem) :=
  if (σ 0 15) = 0 then
    if pmIn (σ 0 14) 160 = true then
    some ((σ 5 (σ 0 14).toNatClampNeg), σ)
    else none
  else
    some ((-1), σ)

def Mo_here (σ : Mem) : Option (Int32 × Mem) :=
  if (σ 0 14) < (σ 0 4) then
    Mo_here_b19 σ
  else
    (Mo_blame (σ 0 4) σ).bind fun q16 =>
    Mo_here_b19 q16

def Mo_emit (v1 : Int32) (v2 : Int32) (σ : Mem) : Option Mem :=
  if pmIn 16 17 = true then
  if pmIn (2560 + (σ 11 16)) 2720 = true then
  if pmIn 16 17 = true then
  if pmIn (2560 + ((mput σ 12 (2560 + (σ 11 16)).toNatClampNeg v1) 11 16)) 2720 = true then
  if pmIn 16 17 = true then
  if pmIn 16 17 = true then
  some (mput (mput (mput σ 12 (2560 + (σ 11 16)).toNatClampNeg v1) 13 (2560 + ((mput σ 12 (2560 + (σ 11 16)).toNatClampNeg v1) 11 16)).toNatClampNeg v2) 11 16 (((mput (mput σ 12 (2560 + (σ 11 16)).toNatClampNeg v1) 13 (2560 + ((mput σ 12 (2560 + (σ 11 16)).toNatClampNeg v1) 11 16)).toNatClampNeg v2) 11 16) + 1))
  else none
  else none
  else none
  else none
  else none
  else none

def Mo_patch_b2  : Nat → Int32 → Mem → Option Mem
  | 0, _, _ => none
  | n + 1, v2, σ =>
    if v2 < 0 then
      some σ
    else
      if pmIn (2560 + v2) 2720 = true then
      if pmIn 16 17 = true then
      if pmIn (2560 + v2) 2720 = true then
      (Mo_patch_b2 n) (σ 13 (2560 + v2).toNatClampNeg) (mput σ 13 (2560 + v2).toNatClampNeg (σ 11 16))
      else none
      else none
      else none

def Mo_patch (v1 : Int32) (σ : Mem) : Option Mem :=
  Mo_patch_b2 FU v1 σ

def Mo_readScope_b114 (s1 : Int32) (s2 : Int32) (σ : Mem) : Option Mem :=
  if pmIn s1 51 = true then
  some (mput (mput σ 8 s1.toNatClampNeg s2) 0 14 (((mput σ 8 s1.toNatClampNeg s2) 0 14) + 1))
  else none

def Mo_readScope_b109 (s1 : Int32) (s2 : Int32) (s3 : Int32) (σ : Mem) : Option Mem :=
  Mo_readScope_b114 s1 (s2 + s3) σ

def Mo_readScope_b83 (v1 : Int32) (v2 : Int32) (v3 : Int32) (v4 : Int32) (σ : Mem) : Option Mem :=
  if v4 = 0 then
    Mo_readScope_b114 (48 + v1) (-1) σ
  else
    if v3 = 0 then
      Mo_readScope_b109 (48 + v1) (v2 - 48) 0 σ
    else
      Mo_readScope_b109 (48 + v1) (v2 - 48) 4 σ

def Mo_readScope_b75 (v1 : Int32) (v2 : Int32) (v3 : Int32) (v4 : Int32) (σ : Mem) : Option Mem :=
  (Mo_blame (σ 0 14) σ).bind fun q80 =>
  Mo_readScope_b83 v1 v2 v3 v4 q80

def Mo_readScope_b58 (v1 : Int32) (v2 : Int32) (v3 : Int32) (s0 : Int32) (σ : Mem) : Option Mem :=
  if ¬ s0 = 0 then
    Mo_readScope_b83 v1 v2 v3 s0 σ
  else
    if ¬ v3 = 0 then
      Mo_readScope_b75 v1 v2 v3 s0 σ
    else
      if v2 = 42 then
        Mo_readScope_b83 v1 v2 v3 s0 σ
      else
        Mo_readScope_b75 v1 v2 v3 s0 σ

def Mo_readScope_b57 (v1 : Int32) (v2 : Int32) (v3 : Int32) (σ : Mem) : Option Mem :=
  Mo_readScope_b58 v1 v2 v3 0 σ

def Mo_readScope_b41 (v1 : Int32) (v2 : Int32) (v3 : Int32) (σ : Mem) : Option Mem :=
  if v2 < 48 then
    Mo_readScope_b57 v1 v2 v3 σ
  else
    if 51 < v2 then
      Mo_readScope_b57 v1 v2 v3 σ
    else
      Mo_readScope_b58 v1 v2 v3 1 σ

def Mo_readScope_b21 (v1 : Int32) (v2 : Int32) (s0 : Int32) (σ : Mem) : Option Mem :=
  if s0 = 0 then
    Mo_readScope_b41 v1 v2 s0 σ
  else
    (Mo_here (mput σ 0 14 ((σ 0 14) + 1))).bind fun q37 =>
    Mo_readScope_b41 v1 q37.1 s0 q37.2

def Mo_readScope_b20 (v1 : Int32) (v2 : Int32) (σ : Mem) : Option Mem :=
  Mo_readScope_b21 v1 v2 0 σ

def Mo_readScope (v1 : Int32) (σ : Mem) : Option Mem :=
  (Mo_here σ).bind fun q1 =>
  if ¬ q1.1 = 64 then
    Mo_readScope_b20 v1 q1.1 q1.2
  else
    if v1 = 1 then
      Mo_readScope_b20 v1 q1.1 q1.2
    else
      Mo_readScope_b21 v1 q1.1 1 q1.2

def Mo_opn (v1 : Int32) (σ : Mem) : Option Mem :=
  if pmIn ((mput σ 0 17 ((σ 0 17) + 1)) 0 17) 8 = true then
  if pmIn ((mput (mput σ 0 17 ((σ 0 17) + 1)) 14 ((mput σ 0 17 ((σ 0 17) + 1)) 0 17).toNatClampNeg v1) 0 17) 8 = true then
  if pmIn ((mput (mput (mput σ 0 17 ((σ 0 17) + 1)) 14 ((mput σ 0 17 ((σ 0 17) + 1)) 0 17).toNatClampNeg v1) 15 ((mput (mput σ 0 17 ((σ 0 17) + 1)) 14 ((mput σ 0 17 ((σ 0 17) + 1)) 0 17).toNatClampNeg v1) 0 17).toNatClampNeg ((mput (mput σ 0 17 ((σ 0 17) + 1)) 14 ((mput σ 0 17 ((σ 0 17) + 1)) 0 17).toNatClampNeg v1) 0 14)) 0 17) 8 = true then
  some (mput (mput (mput (mput σ 0 17 ((σ 0 17) + 1)) 14 ((mput σ 0 17 ((σ 0 17) + 1)) 0 17).toNatClampNeg v1) 15 ((mput (mput σ 0 17 ((σ 0 17) + 1)) 14 ((mput σ 0 17 ((σ 0 17) + 1)) 0 17).toNatClampNeg v1) 0 17).toNatClampNeg ((mput (mput σ 0 17 ((σ 0 17) + 1)) 14 ((mput σ 0 17 ((σ 0 17) + 1)) 0 17).toNatClampNeg v1) 0 14)) 16 ((mput (mput (mput σ 0 17 ((σ 0 17) + 1)) 14 ((mput σ 0 17 ((σ 0 17) + 1)) 0 17).toNatClampNeg v1) 15 ((mput (mput σ 0 17 ((σ 0 17) + 1)) 14 ((mput σ 0 17 ((σ 0 17) + 1)) 0 17).toNatClampNeg v1) 0 17).toNatClampNeg ((mput (mput σ 0 17 ((σ 0 17) + 1)) 14 ((mput σ 0 17 ((σ 0 17) + 1)) 0 17).toNatClampNeg v1) 0 14)) 0 17).toNatClampNeg 0)
  else none
  else none
  else none

def Mo_beginRow (v1 : Int32) (σ : Mem) : Option Mem :=
  if pmIn (σ 0 17) 8 = true then
  if pmIn ((mput σ 23 (σ 0 17).toNatClampNeg 0) 0 17) 8 = true then
  if pmIn ((mput (mput σ 23 (σ 0 17).toNatClampNeg 0) 27 ((mput σ 23 (σ 0 17).toNatClampNeg 0) 0 17).toNatClampNeg 0) 0 17) 8 = true then
  if pmIn ((mput (mput (mput σ 23 (σ 0 17).toNatClampNeg 0) 27 ((mput σ 23 (σ 0 17).toNatClampNeg 0) 0 17).toNatClampNeg 0) 30 ((mput (mput σ 23 (σ 0 17).toNatClampNeg 0) 27 ((mput σ 23 (σ 0 17).toNatClampNeg 0) 0 17).toNatClampNeg 0) 0 17).toNatClampNeg 0) 0 17) 8 = true then
  if pmIn ((mput (mput (mput (mput σ 23 (σ 0 17).toNatClampNeg 0) 27 ((mput σ 23 (σ 0 17).toNatClampNeg 0) 0 17).toNatClampNeg 0) 30 ((mput (mput σ 23 (σ 0 17).toNatClampNeg 0) 27 ((mput σ 23 (σ 0 17).toNatClampNeg 0) 0 17).toNatClampNeg 0) 0 17).toNatClampNeg 0) 34 ((mput (mput (mput σ 23 (σ 0 17).toNatClampNeg 0) 27 ((mput σ 23 (σ 0 17).toNatClampNeg 0) 0 17).toNatClampNeg 0) 30 ((mput (mput σ 23 (σ 0 17).toNatClampNeg 0) 27 ((mput σ 23 (σ 0 17).toNatClampNeg 0) 0 17).toNatClampNeg 0) 0 17).toNatClampNeg 0) 0 17).toNatClampNeg (-1)) 0 17) 8 = true then
  if pmIn ((mput (mput (mput (mput (mput σ 23 (σ 0 17).toNatClampNeg 0) 27 ((mput σ 23 (σ 0 17).toNatClampNeg 0) 0 17).toNatClampNeg 0) 30 ((mput (mput σ 23 (σ 0 17).toNatClampNeg 0) 27 ((mput σ 23 (σ 0 17).toNatClampNeg 0) 0 17).toNatClampNeg 0) 0 17).toNatClampNeg 0) 34 ((mput (mput (mput σ 23 (σ 0 17).toNatClampNeg 0) 27 ((mput σ 23 (σ 0 17).toNatClampNeg 0) 0 17).toNatClampNeg 0) 30 ((mput (mput σ 23 (σ 0 17).toNatClampNeg 0) 27 ((mput σ 23 (σ 0 17).toNatClampNeg 0) 0 17).toNatClampNeg 0) 0 17).toNatClampNeg 0) 0 17).toNatClampNeg (-1)) 35 ((mput (mput (mput (mput σ 23 (σ 0 17).toNatClampNeg 0) 27 ((mput σ 23 (σ 0 17).toNatClampNeg 0) 0 17).toNatClampNeg 0) 30 ((mput (mput σ 23 (σ 0 17).toNatClampNeg 0) 27 ((mput σ 23 (σ 0 17).toNatClampNeg 0) 0 17).toNatClampNeg 0) 0 17).toNatClampNeg 0) 34 ((mput (mput (mput σ 23 (σ 0 17).toNatClampNeg 0) 27 ((mput σ 23 (σ 0 17).toNatClampNeg 0) 0 17).toNatClampNeg 0) 30 ((mput (mput σ 23 (σ 0 17).toNatClampNeg 0) 27 ((mput σ 23 (σ 0 17).toNatClampNeg 0) 0 17).toNatClampNeg 0) 0 17).toNatClampNeg 0) 0 17).toNatClampNeg (-1)) 0 17).toNatClampNeg 0) 0 17) 8 = true then
  if pmIn ((mput (mput (mput (mput (mput (mput σ 23 (σ 0 17).toNatClampNeg 0) 27 ((mput σ 23 (σ 0 17).toNatClampNeg 0) 0 17).toNatClampNeg 0) 30 ((mput (mput σ 23 (σ 0 17).toNatClampNeg 0) 27 ((mput σ 23 (σ 0 17).toNatClampNeg 0) 0 17).toNatClampNeg 0) 0 17).toNatClampNeg 0) 34 ((mput (mput (mput σ 23 (σ 0 17).toNatClampNeg 0) 27 ((mput σ 23 (σ 0 17).toNatClampNeg 0) 0 17).toNatClampNeg 0) 30 ((mput (mput σ 23 (σ 0 17).toNatClampNeg 0) 27 ((mput σ 23 (σ 0 17).toNatClampNeg 0) 0 17).toNatClampNeg 0) 0 17).toNatClampNeg 0) 0 17).toNatClampNeg (-1)) 35 ((mput (mput (mput (mput σ 23 (σ 0 17).toNatClampNeg 0) 27 ((mput σ 23 (σ 0 17).toNatClampNeg 0) 0 17).toNatClampNeg 0) 30 ((mput (mput σ 23 (σ 0 17).toNatClampNeg 0) 27 ((mput σ 23 (σ 0 17).toNatClampNeg 0) 0 17).toNatClampNeg 0) 0 17).toNatClampNeg 0) 34 ((mput (mput (mput σ 23 (σ 0 17).toNatClampNeg 0) 27 ((mput σ 23 (σ 0 17).toNatClampNeg 0) 0 17).toNatClampNeg 0) 30 ((mput (mput σ 23 (σ 0 17).toNatClampNeg 0) 27 ((mput σ 23 (σ 0 17).toNatClampNeg 0) 0 17).toNatClampNeg 0) 0 17).toNatClampNeg 0) 0 17).toNatClampNeg (-1)) 0 17).toNatClampNeg 0) 39 ((mput (mput (mput (mput (mput σ 23 (σ 0 17).toNatClampNeg 0) 27 ((mput σ 23 (σ 0 17).toNatClampNeg 0) 0 17).toNatClampNeg 0) 30 ((mput (mput σ 23 (σ 0 17).toNatClampNeg 0) 27 ((mput σ 23 (σ 0 17).toNatClampNeg 0) 0 17).toNatClampNeg 0) 0 17).toNatClampNeg 0) 34 ((mput (mput (mput σ 23 (σ 0 17).toNatClampNeg 0) 27 ((mput σ 23 (σ 0 17).toNatClampNeg 0) 0 17).toNatClampNeg 0) 30 ((mput (mput σ 23 (σ 0 17).toNatClampNeg 0) 27 ((mput σ 23 (σ 0 17).toNatClampNeg 0) 0 17).toNatClampNeg 0) 0 17).toNatClampNeg 0) 0 17).toNatClampNeg (-1)) 35 ((mput (mput (mput (mput σ 23 (σ 0 17).toNatClampNeg 0) 27 ((mput σ 23 (σ 0 17).toNatClampNeg 0) 0 17).toNatClampNeg 0) 30 ((mput (mput σ 23 (σ 0 17).toNatClampNeg 0) 27 ((mput σ 23 (σ 0 17).toNatClampNeg 0) 0 17).toNatClampNeg 0) 0 17).toNatClampNeg 0) 34 ((mput (mput (mput σ 23 (σ 0 17).toNatClampNeg 0) 27 ((mput σ 23 (σ 0 17).toNatClampNeg 0) 0 17).toNatClampNeg 0) 30 ((mput (mput σ 23 (σ 0 17).toNatClampNeg 0) 27 ((mput σ 23 (σ 0 17).toNatClampNeg 0) 0 17).toNatClampNeg 0) 0 17).toNatClampNeg 0) 0 17).toNatClampNeg (-1)) 0 17).toNatClampNeg 0) 0 17).toNatClampNeg (-1)) 0 17) 8 = true then
  some (mput (mput (mput (mput (mput (mput (mput σ 23 (σ 0 17).toNatClampNeg 0) 27 ((mput σ 23 (σ 0 17).toNatClampNeg 0) 0 17).toNatClampNeg 0) 30 ((mput (mput σ 23 (σ 0 17).toNatClampNeg 0) 27 ((mput σ 23 (σ 0 17).toNatClampNeg 0) 0 17).toNatClampNeg 0) 0 17).toNatClampNeg 0) 34 ((mput (mput (mput σ 23 (σ 0 17).toNatClampNeg 0) 27 ((mput σ 23 (σ 0 17).toNatClampNeg 0) 0 17).toNatClampNeg 0) 30 ((mput (mput σ 23 (σ 0 17).toNatClampNeg 0) 27 ((mput σ 23 (σ 0 17).toNatClampNeg 0) 0 17).toNatClampNeg 0) 0 17).toNatClampNeg 0) 0 17).toNatClampNeg (-1)) 35 ((mput (mput (mput (mput σ 23 (σ 0 17).toNatClampNeg 0) 27 ((mput σ 23 (σ 0 17).toNatClampNeg 0) 0 17).toNatClampNeg 0) 30 ((mput (mput σ 23 (σ 0 17).toNatClampNeg 0) 27 ((mput σ 23 (σ 0 17).toNatClampNeg 0) 0 17).toNatClampNeg 0) 0 17).toNatClampNeg 0) 34 ((mput (mput (mput σ 23 (σ 0 17).toNatClampNeg 0) 27 ((mput σ 23 (σ 0 17).toNatClampNeg 0) 0 17).toNatClampNeg 0) 30 ((mput (mput σ 23 (σ 0 17).toNatClampNeg 0) 27 ((mput σ 23 (σ 0 17).toNatClampNeg 0) 0 17).toNatClampNeg 0) 0 17).toNatClampNeg 0) 0 17).toNatClampNeg (-1)) 0 17).toNatClampNeg 0) 39 ((mput (mput (mput (mput (mput σ 23 (σ 0 17).toNatClampNeg 0) 27 ((mput σ 23 (σ 0 17).toNatClampNeg 0) 0 17).toNatClampNeg 0) 30 ((mput (mput σ 23 (σ 0 17).toNatClampNeg 0) 27 ((mput σ 23 (σ 0 17).toNatClampNeg 0) 0 17).toNatClampNeg 0) 0 17).toNatClampNeg 0) 34 ((mput (mput (mput σ 23 (σ 0 17).toNatClampNeg 0) 27 ((mput σ 23 (σ 0 17).toNatClampNeg 0) 0 17).toNatClampNeg 0) 30 ((mput (mput σ 23 (σ 0 17).toNatClampNeg 0) 27 ((mput σ 23 (σ 0 17).toNatClampNeg 0) 0 17).toNatClampNeg 0) 0 17).toNatClampNeg 0) 0 17).toNatClampNeg (-1)) 35 ((mput (mput (mput (mput σ 23 (σ 0 17).toNatClampNeg 0) 27 ((mput σ 23 (σ 0 17).toNatClampNeg 0) 0 17).toNatClampNeg 0) 30 ((mput (mput σ 23 (σ 0 17).toNatClampNeg 0) 27 ((mput σ 23 (σ 0 17).toNatClampNeg 0) 0 17).toNatClampNeg 0) 0 17).toNatClampNeg 0) 34 ((mput (mput (mput σ 23 (σ 0 17).toNatClampNeg 0) 27 ((mput σ 23 (σ 0 17).toNatClampNeg 0) 0 17).toNatClampNeg 0) 30 ((mput (mput σ 23 (σ 0 17).toNatClampNeg 0) 27 ((mput σ 23 (σ 0 17).toNatClampNeg 0) 0 17).toNatClampNeg 0) 0 17).toNatClampNeg 0) 0 17).toNatClampNeg (-1)) 0 17).toNatClampNeg 0) 0 17).toNatClampNeg (-1)) 40 ((mput (mput (mput (mput (mput (mput σ 23 (σ 0 17).toNatClampNeg 0) 27 ((mput σ 23 (σ 0 17).toNatClampNeg 0) 0 17).toNatClampNeg 0) 30 ((mput (mput σ 23 (σ 0 17).toNatClampNeg 0) 27 ((mput σ 23 (σ 0 17).toNatClampNeg 0) 0 17).toNatClampNeg 0) 0 17).toNatClampNeg 0) 34 ((mput (mput (mput σ 23 (σ 0 17).toNatClampNeg 0) 27 ((mput σ 23 (σ 0 17).toNatClampNeg 0) 0 17).toNatClampNeg 0) 30 ((mput (mput σ 23 (σ 0 17).toNatClampNeg 0) 27 ((mput σ 23 (σ 0 17).toNatClampNeg 0) 0 17).toNatClampNeg 0) 0 17).toNatClampNeg 0) 0 17).toNatClampNeg (-1)) 35 ((mput (mput (mput (mput σ 23 (σ 0 17).toNatClampNeg 0) 27 ((mput σ 23 (σ 0 17).toNatClampNeg 0) 0 17).toNatClampNeg 0) 30 ((mput (mput σ 23 (σ 0 17).toNatClampNeg 0) 27 ((mput σ 23 (σ 0 17).toNatClampNeg 0) 0 17).toNatClampNeg 0) 0 17).toNatClampNeg 0) 34 ((mput (mput (mput σ 23 (σ 0 17).toNatClampNeg 0) 27 ((mput σ 23 (σ 0 17).toNatClampNeg 0) 0 17).toNatClampNeg 0) 30 ((mput (mput σ 23 (σ 0 17).toNatClampNeg 0) 27 ((mput σ 23 (σ 0 17).toNatClampNeg 0) 0 17).toNatClampNeg 0) 0 17).toNatClampNeg 0) 0 17).toNatClampNeg (-1)) 0 17).toNatClampNeg 0) 39 ((mput (mput (mput (mput (mput σ 23 (σ 0 17).toNatClampNeg 0) 27 ((mput σ 23 (σ 0 17).toNatClampNeg 0) 0 17).toNatClampNeg 0) 30 ((mput (mput σ 23 (σ 0 17).toNatClampNeg 0) 27 ((mput σ 23 (σ 0 17).toNatClampNeg 0) 0 17).toNatClampNeg 0) 0 17).toNatClampNeg 0) 34 ((mput (mput (mput σ 23 (σ 0 17).toNatClampNeg 0) 27 ((mput σ 23 (σ 0 17).toNatClampNeg 0) 0 17).toNatClampNeg 0) 30 ((mput (mput σ 23 (σ 0 17).toNatClampNeg 0) 27 ((mput σ 23 (σ 0 17).toNatClampNeg 0) 0 17).toNatClampNeg 0) 0 17).toNatClampNeg 0) 0 17).toNatClampNeg (-1)) 35 ((mput (mput (mput (mput σ 23 (σ 0 17).toNatClampNeg 0) 27 ((mput σ 23 (σ 0 17).toNatClampNeg 0) 0 17).toNatClampNeg 0) 30 ((mput (mput σ 23 (σ 0 17).toNatClampNeg 0) 27 ((mput σ 23 (σ 0 17).toNatClampNeg 0) 0 17).toNatClampNeg 0) 0 17).toNatClampNeg 0) 34 ((mput (mput (mput σ 23 (σ 0 17).toNatClampNeg 0) 27 ((mput σ 23 (σ 0 17).toNatClampNeg 0) 0 17).toNatClampNeg 0) 30 ((mput (mput σ 23 (σ 0 17).toNatClampNeg 0) 27 ((mput σ 23 (σ 0 17).toNatClampNeg 0) 0 17).toNatClampNeg 0) 0 17).toNatClampNeg 0) 0 17).toNatClampNeg (-1)) 0 17).toNatClampNeg 0) 0 17).toNatClampNeg (-1)) 0 17).toNatClampNeg v1)
  else none
  else none
  else none
  else none
  else none
  else none
  else none

def Mo_row_b5  : Nat → Int32 → Mem → Option Int32
  | 0, _, _ => none
  | n + 1, v1, σ =>
    if pmIn v1 8 = true then
    if ¬ (σ 14 v1.toNatClampNeg) = 4 then
      some v1
    else
      (Mo_row_b5 n) (v1 + (-1)) σ
    else none

def Mo_row (σ : Mem) : Option Int32 :=
  Mo_row_b5 FU (σ 0 17) σ

def Mo_knownHere (σ : Mem) : Option Int32 :=
  (Mo_row σ).bind fun q1 =>
  if pmIn q1 8 = true then
  if pmIn q1 8 = true then
  if (σ 30 q1.toNatClampNeg) = 0 then
    some ((σ 40 q1.toNatClampNeg) ||| 0)
  else
    if pmIn q1 8 = true then
    some ((σ 40 q1.toNatClampNeg) ||| (σ 33 q1.toNatClampNeg))
    else none
  else none
  else none

def Mo_readAtom_b284 (v1 : Int32) (v2 : Int32) (σ : Mem) : Option (Int32 × Mem) :=
  if ¬ v2 = 0 then
    some (1, σ)
  else
    if v1 = 110 then
      some (1, σ)
    else
      if v1 = 109 then
        some (1, σ)
      else
        if ¬ v1 = 108 then
          some (2, σ)
        else
          some (1, σ)

def Mo_readAtom_b283 (v1 : Int32) (v2 : Int32) (s1 : Int32) (s2 : Int32) (σ : Mem) : Option (Int32 × Mem) :=
  if pmIn s1 17 = true then
  if (s2 == 0 || s2 == 1) = true then
  Mo_readAtom_b284 v1 v2 (mput σ 10 s1.toNatClampNeg s2)
  else none
  else none

def Mo_readAtom_b282 (v1 : Int32) (v2 : Int32) (s1 : Int32) (σ : Mem) : Option (Int32 × Mem) :=
  Mo_readAtom_b283 v1 v2 s1 0 σ

def Mo_readAtom_b238 (v1 : Int32) (v2 : Int32) (v5 : Int32) (s1 : Int32) (σ : Mem) : Option (Int32 × Mem) :=
  (Mo_emit s1 v5 σ).bind fun q240 =>
  if ¬ v1 = 109 then
    Mo_readAtom_b284 v1 v2 q240
  else
    if pmIn 16 17 = true then
    if (q240 10 16) = 0 then
      Mo_readAtom_b282 v1 v2 16 q240
    else
      (Mo_knownHere q240).bind fun q266 =>
      if ¬ ((q266 >>> (v5 &&& 31)) &&& 1) = 1 then
        Mo_readAtom_b282 v1 v2 16 q240
      else
        Mo_readAtom_b283 v1 v2 16 1 q240
    else none

def Mo_readAtom_b228 (v1 : Int32) (v2 : Int32) (v5 : Int32) (σ : Mem) : Option (Int32 × Mem) :=
  if v2 = 0 then
    Mo_readAtom_b238 v1 v2 v5 v1 σ
  else
    Mo_readAtom_b238 v1 v2 v5 0 σ

def Mo_readAtom_b201 (σ : Mem) : Option (Int32 × Mem) :=
  (Mo_blame (σ 0 14) σ).bind fun q206 =>
  some (0, q206)

def Mo_readAtom_b175 (v1 : Int32) (v2 : Int32) (v3 : Int32) (s0 : Int32) (σ : Mem) : Option (Int32 × Mem) :=
  if v3 = 0 then
    Mo_readAtom_b228 v1 v2 s0 σ
  else
    (Mo_here σ).bind fun q182 =>
    if q182.1 < 48 then
      Mo_readAtom_b201 q182.2
    else
      if q182.1 ≤ 51 then
        Mo_readAtom_b228 v1 v2 (q182.1 - 48) (mput q182.2 0 14 ((q182.2 0 14) + 1))
      else
        Mo_readAtom_b201 q182.2

def Mo_readAtom_b132 (σ : Mem) : Option (Int32 × Mem) :=
  (Mo_blame (σ 0 14) σ).bind fun q137 =>
  some (0, q137)

def Mo_readAtom_b120 (v1 : Int32) (v2 : Int32) (v3 : Int32) (σ : Mem) : Option (Int32 × Mem) :=
  if pmIn 16 17 = true then
  if ¬ (σ 9 16) = 12 then
    if pmIn 16 17 = true then
    if pmIn 16 17 = true then
    if v2 = 0 then
      Mo_readAtom_b175 v1 v2 v3 0 (mput (mput σ 9 16 ((σ 9 16) + 1)) 0 14 (((mput σ 9 16 ((σ 9 16) + 1)) 0 14) + 1))
    else
      Mo_readAtom_b175 v1 v2 v3 (v1 - 48) (mput (mput σ 9 16 ((σ 9 16) + 1)) 0 14 (((mput σ 9 16 ((σ 9 16) + 1)) 0 14) + 1))
    else none
    else none
  else
    Mo_readAtom_b132 σ
  else none

def Mo_readAtom_b105 (v1 : Int32) (v2 : Int32) (v3 : Int32) (s0 : Int32) (σ : Mem) : Option (Int32 × Mem) :=
  if ¬ v2 = 0 then
    Mo_readAtom_b120 v1 v2 v3 σ
  else
    if ¬ v3 = 0 then
      Mo_readAtom_b120 v1 v2 v3 σ
    else
      if s0 = 0 then
        Mo_readAtom_b132 σ
      else
        Mo_readAtom_b120 v1 v2 v3 σ

def Mo_readAtom_b100 (v1 : Int32) (v2 : Int32) (v3 : Int32) (σ : Mem) : Option (Int32 × Mem) :=
  Mo_readAtom_b105 v1 v2 v3 1 σ

def Mo_readAtom_b57 (v1 : Int32) (v2 : Int32) (s0 : Int32) (σ : Mem) : Option (Int32 × Mem) :=
  if v1 = 84 then
    Mo_readAtom_b100 v1 v2 s0 σ
  else
    if v1 = 70 then
      Mo_readAtom_b100 v1 v2 s0 σ
    else
      if v1 = 110 then
        Mo_readAtom_b100 v1 v2 s0 σ
      else
        if v1 = 98 then
          Mo_readAtom_b100 v1 v2 s0 σ
        else
          if v1 = 99 then
            Mo_readAtom_b100 v1 v2 s0 σ
          else
            if v1 = 111 then
              Mo_readAtom_b100 v1 v2 s0 σ
            else
              if ¬ v1 = 108 then
                Mo_readAtom_b105 v1 v2 s0 0 σ
              else
                Mo_readAtom_b100 v1 v2 s0 σ

def Mo_readAtom_b52 (v1 : Int32) (v2 : Int32) (σ : Mem) : Option (Int32 × Mem) :=
  Mo_readAtom_b57 v1 v2 1 σ

def Mo_readAtom_b27 (v1 : Int32) (s0 : Int32) (σ : Mem) : Option (Int32 × Mem) :=
  if v1 = 103 then
    Mo_readAtom_b52 v1 s0 σ
  else
    if v1 = 102 then
      Mo_readAtom_b52 v1 s0 σ
    else
      if v1 = 104 then
        Mo_readAtom_b52 v1 s0 σ
      else
        if ¬ v1 = 109 then
          Mo_readAtom_b57 v1 s0 0 σ
        else
          Mo_readAtom_b52 v1 s0 σ

def Mo_readAtom_b26 (v1 : Int32) (σ : Mem) : Option (Int32 × Mem) :=
  Mo_readAtom_b27 v1 0 σ

def Mo_readAtom (σ : Mem) : Option (Int32 × Mem) :=
  if pmIn (σ 0 14) 160 = true then
  if (σ 5 (σ 0 14).toNatClampNeg) < 48 then
    Mo_readAtom_b26 (σ 5 (σ 0 14).toNatClampNeg) σ
  else
    if 57 < (σ 5 (σ 0 14).toNatClampNeg) then
      Mo_readAtom_b26 (σ 5 (σ 0 14).toNatClampNeg) σ
    else
      Mo_readAtom_b27 (σ 5 (σ 0 14).toNatClampNeg) 1 σ
  else none

def Mo_endTerm_b129 (σ : Mem) : Option Mem :=
  if pmIn (σ 0 17) 8 = true then
  (Mo_emit (σ 23 (σ 0 17).toNatClampNeg) 0 σ).bind fun q140 =>
  if pmIn (q140 0 17) 8 = true then
  if pmIn ((mput q140 23 (q140 0 17).toNatClampNeg 0) 0 17) 8 = true then
  some (mput (mput q140 23 (q140 0 17).toNatClampNeg 0) 26 ((mput q140 23 (q140 0 17).toNatClampNeg 0) 0 17).toNatClampNeg 0)
  else none
  else none
  else none

def Mo_endTerm_b34 (k9 : Int32 → Int32 → Int32 → Mem → Option Mem) (σ : Mem) : Option Mem :=
  (Mo_emit 33 0 σ).bind fun q38 =>
  if pmIn (q38 0 17) 8 = true then
  k9 2 0 (q38 15 (q38 0 17).toNatClampNeg) (mput q38 0 17 ((q38 0 17) - 1))
  else none

def Mo_endTerm_b9  : Nat → Int32 → Int32 → Int32 → Mem → Option Mem
  | 0, _, _, _, _ => none
  | n + 1, v4, v5, v6, σ =>
    if pmIn (σ 0 17) 8 = true then
    if ¬ (σ 14 (σ 0 17).toNatClampNeg) = 4 then
      if pmIn (σ 0 17) 8 = true then
      if ¬ (σ 23 (σ 0 17).toNatClampNeg) = 0 then
        if v4 = 1 then
          Mo_endTerm_b129 σ
        else
          (Mo_wrongType v6 σ).bind fun q126 =>
          Mo_endTerm_b129 q126
      else
        if pmIn (σ 0 17) 8 = true then
        if pmIn ((mput σ 25 (σ 0 17).toNatClampNeg v4) 0 17) 8 = true then
        if pmIn ((mput (mput σ 25 (σ 0 17).toNatClampNeg v4) 26 ((mput σ 25 (σ 0 17).toNatClampNeg v4) 0 17).toNatClampNeg v5) 0 17) 8 = true then
        some (mput (mput (mput σ 25 (σ 0 17).toNatClampNeg v4) 26 ((mput σ 25 (σ 0 17).toNatClampNeg v4) 0 17).toNatClampNeg v5) 24 ((mput (mput σ 25 (σ 0 17).toNatClampNeg v4) 26 ((mput σ 25 (σ 0 17).toNatClampNeg v4) 0 17).toNatClampNeg v5) 0 17).toNatClampNeg v6)
        else none
        else none
        else none
      else none
    else
      if v4 = 2 then
        Mo_endTerm_b34 (Mo_endTerm_b9 n) σ
      else
        (Mo_wrongType v6 σ).bind fun q31 =>
        Mo_endTerm_b34 (Mo_endTerm_b9 n) q31
    else none

def Mo_endTerm (v1 : Int32) (v2 : Int32) (v3 : Int32) (σ : Mem) : Option Mem :=
  Mo_endTerm_b9 FU v1 v2 v3 σ

def Mo_readTerm_b113 (k2 : Int32 → Mem → Option Mem) (v1 : Int32) (v4 : Int32) (v5 : Int32) (s0 : Int32) (σ : Mem) : Option Mem :=
  (Mo_endTerm v5 s0 v4 σ).bind fun q122 =>
  k2 v1 q122

def Mo_readTerm_b49 (k2 : Int32 → Mem → Option Mem) (v1 : Int32) (s0 : Int32) (σ : Mem) : Option Mem :=
  if (σ 0 15) = 0 then
    if ¬ s0 = 0 then
      if ¬ (σ 0 17) = 6 then
        (Mo_knownHere σ).bind fun q149 =>
        (Mo_opn s0 σ).bind fun q156 =>
        if s0 = 4 then
          k2 v1 (mput q156 0 14 ((q156 0 14) + 1))
        else
          if pmIn ((mput q156 0 14 ((q156 0 14) + 1)) 0 17) 8 = true then
          (Mo_beginRow q149 (mput (mput q156 0 14 ((q156 0 14) + 1)) 20 ((mput q156 0 14 ((q156 0 14) + 1)) 0 17).toNatClampNeg q149)).bind fun q188 =>
          k2 v1 q188
          else none
      else
        (Mo_blame (σ 0 14) σ).bind fun q142 =>
        k2 v1 q142
    else
      (Mo_readAtom σ).bind fun q69 =>
      if ¬ (q69.2 0 15) = 0 then
        k2 0 q69.2
      else
        if pmIn (σ 0 14) 160 = true then
        if ¬ (q69.2 5 (σ 0 14).toNatClampNeg) = 104 then
          Mo_readTerm_b113 k2 0 (σ 0 14) q69.1 0 q69.2
        else
          if pmIn ((σ 0 14) + 1) 160 = true then
          Mo_readTerm_b113 k2 0 (σ 0 14) q69.1 (1 <<< (((q69.2 5 ((σ 0 14) + 1).toNatClampNeg) - 48) &&& 31)) q69.2
          else none
        else none
  else
    some σ

def Mo_readTerm_b2  : Nat → Int32 → Mem → Option Mem
  | 0, _, _ => none
  | n + 1, v1, σ =>
    if v1 = 0 then
      some σ
    else
      if ¬ (σ 0 15) = 0 then
        some σ
      else
        (Mo_here σ).bind fun q14 =>
        if ¬ q14.1 = 33 then
          if ¬ q14.1 = 40 then
            if ¬ q14.1 = 91 then
              Mo_readTerm_b49 (Mo_readTerm_b2 n) v1 0 q14.2
            else
              Mo_readTerm_b49 (Mo_readTerm_b2 n) v1 3 q14.2
          else
            Mo_readTerm_b49 (Mo_readTerm_b2 n) v1 2 q14.2
        else
          Mo_readTerm_b49 (Mo_readTerm_b2 n) v1 4 q14.2

def Mo_readTerm (σ : Mem) : Option Mem :=
  Mo_readTerm_b2 FU 1 σ

def Mo_isComparing (v0 : Int32) : Int32 :=
  if v0 = 60 then
    1
  else
    if v0 = 61 then
      1
    else
      if ¬ v0 = 35 then
        0
      else
        1

def Mo_endRow_b238 (s1 : Int32) (σ : Mem) : Option Mem :=
  some (mput σ 0 16 s1)

def Mo_endRow_b206 (v1 : Int32) (s1 : Int32) (σ : Mem) : Option Mem :=
  (Mo_emit s1 0 σ).bind fun q207 =>
  if pmIn v1 8 = true then
  if ¬ (q207 16 v1.toNatClampNeg) = 0 then
    Mo_endRow_b238 (q207 0 16) q207
  else
    if pmIn v1 8 = true then
    Mo_endRow_b238 ((q207 0 16) ||| (q207 38 v1.toNatClampNeg)) q207
    else none
  else none

def Mo_endRow_b157 (v1 : Int32) (σ : Mem) : Option Mem :=
  if (σ 0 15) = 0 then
    if pmIn v1 8 = true then
    if ¬ ((mput σ 0 14 ((σ 0 14) + 1)) 14 v1.toNatClampNeg) = 1 then
      if pmIn v1 8 = true then
      if ¬ ((mput σ 0 14 ((σ 0 14) + 1)) 14 v1.toNatClampNeg) = 2 then
        if pmIn v1 8 = true then
        if ¬ ((mput σ 0 14 ((σ 0 14) + 1)) 16 v1.toNatClampNeg) = 0 then
          if pmIn v1 8 = true then
          if ¬ ((mput σ 0 14 ((σ 0 14) + 1)) 16 v1.toNatClampNeg) = 1 then
            if pmIn v1 8 = true then
            (Mo_patch ((mput σ 0 14 ((σ 0 14) + 1)) 22 v1.toNatClampNeg) (mput σ 0 14 ((σ 0 14) + 1))).bind fun q458 =>
            if pmIn v1 8 = true then
            if pmIn v1 8 = true then
            if pmIn v1 8 = true then
            if pmIn v1 8 = true then
            if pmIn v1 8 = true then
            (Mo_endTerm ((mput q458 0 17 ((q458 0 17) - 1)) 37 v1.toNatClampNeg) ((((mput q458 0 17 ((q458 0 17) - 1)) 18 v1.toNatClampNeg) ||| ((mput q458 0 17 ((q458 0 17) - 1)) 19 v1.toNatClampNeg)) &&& ((mput q458 0 17 ((q458 0 17) - 1)) 38 v1.toNatClampNeg)) ((mput q458 0 17 ((q458 0 17) - 1)) 15 v1.toNatClampNeg) (mput q458 0 17 ((q458 0 17) - 1))).bind fun q504 =>
            some q504
            else none
            else none
            else none
            else none
            else none
            else none
          else
            if pmIn v1 8 = true then
            if pmIn v1 8 = true then
            if pmIn v1 8 = true then
            if pmIn v1 8 = true then
            (Mo_emit 4 (-1) (mput (mput (mput σ 0 14 ((σ 0 14) + 1)) 19 v1.toNatClampNeg ((mput σ 0 14 ((σ 0 14) + 1)) 38 v1.toNatClampNeg)) 17 v1.toNatClampNeg ((mput (mput σ 0 14 ((σ 0 14) + 1)) 19 v1.toNatClampNeg ((mput σ 0 14 ((σ 0 14) + 1)) 38 v1.toNatClampNeg)) 37 v1.toNatClampNeg))).bind fun q399 =>
            if pmIn 16 17 = true then
            if pmIn v1 8 = true then
            if pmIn v1 8 = true then
            (Mo_patch ((mput q399 22 v1.toNatClampNeg ((q399 11 16) - 1)) 21 v1.toNatClampNeg) (mput q399 22 v1.toNatClampNeg ((q399 11 16) - 1))).bind fun q424 =>
            if pmIn v1 8 = true then
            if pmIn v1 8 = true then
            (Mo_beginRow ((mput q424 16 v1.toNatClampNeg 2) 20 v1.toNatClampNeg) (mput q424 16 v1.toNatClampNeg 2)).bind fun q441 =>
            (Mo_readTerm q441).bind fun q445 =>
            some q445
            else none
            else none
            else none
            else none
            else none
            else none
            else none
            else none
            else none
          else none
        else
          if pmIn v1 8 = true then
          if pmIn v1 8 = true then
          (Mo_emit 3 (-1) (mput (mput σ 0 14 ((σ 0 14) + 1)) 18 v1.toNatClampNeg ((mput σ 0 14 ((σ 0 14) + 1)) 38 v1.toNatClampNeg))).bind fun q313 =>
          if pmIn 16 17 = true then
          if pmIn v1 8 = true then
          if pmIn v1 8 = true then
          if pmIn v1 8 = true then
          if pmIn v1 8 = true then
          (Mo_beginRow (((mput (mput q313 21 v1.toNatClampNeg ((q313 11 16) - 1)) 16 v1.toNatClampNeg 1) 20 v1.toNatClampNeg) ||| ((mput (mput q313 21 v1.toNatClampNeg ((q313 11 16) - 1)) 16 v1.toNatClampNeg 1) 18 v1.toNatClampNeg)) (mput (mput q313 21 v1.toNatClampNeg ((q313 11 16) - 1)) 16 v1.toNatClampNeg 1)).bind fun q352 =>
          (Mo_readTerm q352).bind fun q356 =>
          some q356
          else none
          else none
          else none
          else none
          else none
          else none
          else none
        else none
      else
        if pmIn v1 8 = true then
        if pmIn v1 8 = true then
        if pmIn v1 8 = true then
        (Mo_endTerm ((mput (mput σ 0 14 ((σ 0 14) + 1)) 0 17 (((mput σ 0 14 ((σ 0 14) + 1)) 0 17) - 1)) 37 v1.toNatClampNeg) ((mput (mput σ 0 14 ((σ 0 14) + 1)) 0 17 (((mput σ 0 14 ((σ 0 14) + 1)) 0 17) - 1)) 38 v1.toNatClampNeg) ((mput (mput σ 0 14 ((σ 0 14) + 1)) 0 17 (((mput σ 0 14 ((σ 0 14) + 1)) 0 17) - 1)) 15 v1.toNatClampNeg) (mput (mput σ 0 14 ((σ 0 14) + 1)) 0 17 (((mput σ 0 14 ((σ 0 14) + 1)) 0 17) - 1))).bind fun q283 =>
        some q283
        else none
        else none
        else none
      else none
    else
      if pmIn v1 8 = true then
      if ¬ ((mput (mput σ 0 14 ((σ 0 14) + 1)) 0 17 (-1)) 16 v1.toNatClampNeg) = 0 then
        Mo_endRow_b206 v1 6 (mput (mput σ 0 14 ((σ 0 14) + 1)) 0 17 (-1))
      else
        Mo_endRow_b206 v1 5 (mput (mput σ 0 14 ((σ 0 14) + 1)) 0 17 (-1))
      else none
    else none
  else
    some σ

def Mo_endRow_b141 (v1 : Int32) (v2 : Int32) (s0 : Int32) (σ : Mem) : Option Mem :=
  if v2 = s0 then
    Mo_endRow_b157 v1 σ
  else
    (Mo_blame (σ 0 14) σ).bind fun q154 =>
    Mo_endRow_b157 v1 q154

def Mo_endRow_b94 (v1 : Int32) (v2 : Int32) (σ : Mem) : Option Mem :=
  if pmIn v1 8 = true then
  if ¬ (σ 14 v1.toNatClampNeg) = 1 then
    if pmIn v1 8 = true then
    if ¬ (σ 14 v1.toNatClampNeg) = 2 then
      if pmIn v1 8 = true then
      if 2 ≤ (σ 16 v1.toNatClampNeg) then
        Mo_endRow_b141 v1 v2 93 σ
      else
        Mo_endRow_b141 v1 v2 58 σ
      else none
    else
      Mo_endRow_b141 v1 v2 41 σ
    else none
  else
    Mo_endRow_b141 v1 v2 125 σ
  else none

def Mo_endRow_b84 (v1 : Int32) (v2 : Int32) (σ : Mem) : Option Mem :=
  if pmIn v1 8 = true then
  (Mo_wrongType (σ 36 v1.toNatClampNeg) σ).bind fun q91 =>
  Mo_endRow_b94 v1 v2 q91
  else none

def Mo_endRow_b49 (v1 : Int32) (v2 : Int32) (σ : Mem) : Option Mem :=
  if pmIn v1 8 = true then
  if ¬ (σ 14 v1.toNatClampNeg) = 3 then
    Mo_endRow_b94 v1 v2 σ
  else
    if pmIn v1 8 = true then
    if ¬ (σ 16 v1.toNatClampNeg) = 2 then
      Mo_endRow_b94 v1 v2 σ
    else
      if pmIn v1 8 = true then
      if pmIn v1 8 = true then
      if (σ 37 v1.toNatClampNeg) = (σ 17 v1.toNatClampNeg) then
        Mo_endRow_b94 v1 v2 σ
      else
        Mo_endRow_b84 v1 v2 σ
      else none
      else none
    else none
  else none

def Mo_endRow_b34 (v1 : Int32) (v2 : Int32) (s0 : Int32) (σ : Mem) : Option Mem :=
  if s0 = 0 then
    Mo_endRow_b49 v1 v2 σ
  else
    if pmIn v1 8 = true then
    if ¬ (σ 37 v1.toNatClampNeg) = 2 then
      Mo_endRow_b84 v1 v2 σ
    else
      Mo_endRow_b49 v1 v2 σ
    else none

def Mo_endRow_b29 (v1 : Int32) (v2 : Int32) (σ : Mem) : Option Mem :=
  Mo_endRow_b34 v1 v2 1 σ

def Mo_endRow_b33 (v1 : Int32) (v2 : Int32) (σ : Mem) : Option Mem :=
  Mo_endRow_b34 v1 v2 0 σ

def Mo_endRow (v1 : Int32) (v2 : Int32) (σ : Mem) : Option Mem :=
  if pmIn v1 8 = true then
  if (σ 14 v1.toNatClampNeg) = 1 then
    Mo_endRow_b29 v1 v2 σ
  else
    if pmIn v1 8 = true then
    if ¬ (σ 14 v1.toNatClampNeg) = 3 then
      Mo_endRow_b33 v1 v2 σ
    else
      if pmIn v1 8 = true then
      if ¬ (σ 16 v1.toNatClampNeg) = 0 then
        Mo_endRow_b33 v1 v2 σ
      else
        Mo_endRow_b29 v1 v2 σ
      else none
    else none
  else none

def Mo_endAnd_b137 (v1 : Int32) (σ : Mem) : Option Mem :=
  if pmIn v1 8 = true then
  (Mo_emit 2 (σ 39 v1.toNatClampNeg) σ).bind fun q145 =>
  if pmIn 16 17 = true then
  if pmIn v1 8 = true then
  if pmIn v1 8 = true then
  some (mput (mput (mput q145 39 v1.toNatClampNeg ((q145 11 16) - 1)) 35 v1.toNatClampNeg 1) 0 14 (((mput (mput q145 39 v1.toNatClampNeg ((q145 11 16) - 1)) 35 v1.toNatClampNeg 1) 0 14) + 1))
  else none
  else none
  else none
  else none

def Mo_endAnd_b111 (v1 : Int32) (v2 : Int32) (σ : Mem) : Option Mem :=
  if ¬ v2 = 124 then
    if pmIn v1 8 = true then
    (Mo_patch (σ 39 v1.toNatClampNeg) σ).bind fun q188 =>
    if pmIn v1 8 = true then
    (Mo_endRow v1 v2 (mput q188 39 v1.toNatClampNeg (-1))).bind fun q201 =>
    some q201
    else none
    else none
  else
    if pmIn v1 8 = true then
    if (σ 37 v1.toNatClampNeg) = 2 then
      Mo_endAnd_b137 v1 σ
    else
      if pmIn v1 8 = true then
      (Mo_wrongType (σ 36 v1.toNatClampNeg) σ).bind fun q134 =>
      Mo_endAnd_b137 v1 q134
      else none
    else none

def Mo_endAnd_b53 (v1 : Int32) (v2 : Int32) (σ : Mem) : Option Mem :=
  if pmIn v1 8 = true then
  if pmIn v1 8 = true then
  if pmIn v1 8 = true then
  Mo_endAnd_b111 v1 v2 (mput σ 38 v1.toNatClampNeg ((σ 38 v1.toNatClampNeg) &&& (σ 33 v1.toNatClampNeg)))
  else none
  else none
  else none

def Mo_endAnd (v1 : Int32) (v2 : Int32) (σ : Mem) : Option Mem :=
  if pmIn v1 8 = true then
  (Mo_patch (σ 34 v1.toNatClampNeg) σ).bind fun q7 =>
  if pmIn v1 8 = true then
  if pmIn v1 8 = true then
  if pmIn v1 8 = true then
  if ((mput (mput q7 34 v1.toNatClampNeg (-1)) 30 v1.toNatClampNeg 0) 35 v1.toNatClampNeg) = 0 then
    if pmIn v1 8 = true then
    if pmIn v1 8 = true then
    if pmIn v1 8 = true then
    if pmIn v1 8 = true then
    if pmIn v1 8 = true then
    if pmIn v1 8 = true then
    Mo_endAnd_b111 v1 v2 (mput (mput (mput (mput (mput q7 34 v1.toNatClampNeg (-1)) 30 v1.toNatClampNeg 0) 37 v1.toNatClampNeg ((mput (mput q7 34 v1.toNatClampNeg (-1)) 30 v1.toNatClampNeg 0) 32 v1.toNatClampNeg)) 38 v1.toNatClampNeg ((mput (mput (mput q7 34 v1.toNatClampNeg (-1)) 30 v1.toNatClampNeg 0) 37 v1.toNatClampNeg ((mput (mput q7 34 v1.toNatClampNeg (-1)) 30 v1.toNatClampNeg 0) 32 v1.toNatClampNeg)) 33 v1.toNatClampNeg)) 36 v1.toNatClampNeg ((mput (mput (mput (mput q7 34 v1.toNatClampNeg (-1)) 30 v1.toNatClampNeg 0) 37 v1.toNatClampNeg ((mput (mput q7 34 v1.toNatClampNeg (-1)) 30 v1.toNatClampNeg 0) 32 v1.toNatClampNeg)) 38 v1.toNatClampNeg ((mput (mput (mput q7 34 v1.toNatClampNeg (-1)) 30 v1.toNatClampNeg 0) 37 v1.toNatClampNeg ((mput (mput q7 34 v1.toNatClampNeg (-1)) 30 v1.toNatClampNeg 0) 32 v1.toNatClampNeg)) 33 v1.toNatClampNeg)) 31 v1.toNatClampNeg))
    else none
    else none
    else none
    else none
    else none
    else none
  else
    if pmIn v1 8 = true then
    if ((mput (mput q7 34 v1.toNatClampNeg (-1)) 30 v1.toNatClampNeg 0) 32 v1.toNatClampNeg) = 2 then
      Mo_endAnd_b53 v1 v2 (mput (mput q7 34 v1.toNatClampNeg (-1)) 30 v1.toNatClampNeg 0)
    else
      if pmIn v1 8 = true then
      (Mo_wrongType ((mput (mput q7 34 v1.toNatClampNeg (-1)) 30 v1.toNatClampNeg 0) 31 v1.toNatClampNeg) (mput (mput q7 34 v1.toNatClampNeg (-1)) 30 v1.toNatClampNeg 0)).bind fun q50 =>
      Mo_endAnd_b53 v1 v2 q50
      else none
    else none
  else none
  else none
  else none
  else none

def Mo_goOn_b50 (v1 : Int32) (v2 : Int32) (σ : Mem) : Option Mem :=
  if pmIn v2 8 = true then
  some (mput (mput σ 23 v2.toNatClampNeg v1) 0 14 (((mput σ 23 v2.toNatClampNeg v1) 0 14) + 1))
  else none

def Mo_goOn_b30 (v1 : Int32) (v2 : Int32) (σ : Mem) : Option Mem :=
  if pmIn v2 8 = true then
  if (σ 25 v2.toNatClampNeg) = 1 then
    Mo_goOn_b50 v1 v2 σ
  else
    if pmIn v2 8 = true then
    (Mo_wrongType (σ 24 v2.toNatClampNeg) σ).bind fun q47 =>
    Mo_goOn_b50 v1 v2 q47
    else none
  else none

def Mo_goOn_b309 (v2 : Int32) (σ : Mem) : Option Mem :=
  if pmIn v2 8 = true then
  (Mo_emit 1 (σ 34 v2.toNatClampNeg) σ).bind fun q317 =>
  if pmIn 16 17 = true then
  if pmIn v2 8 = true then
  if pmIn v2 8 = true then
  some (mput (mput (mput q317 34 v2.toNatClampNeg ((q317 11 16) - 1)) 30 v2.toNatClampNeg 1) 0 14 (((mput (mput q317 34 v2.toNatClampNeg ((q317 11 16) - 1)) 30 v2.toNatClampNeg 1) 0 14) + 1))
  else none
  else none
  else none
  else none

def Mo_goOn_b283 (v1 : Int32) (v2 : Int32) (σ : Mem) : Option Mem :=
  if ¬ v1 = 38 then
    (Mo_endAnd v2 v1 σ).bind fun q356 =>
    some q356
  else
    if pmIn v2 8 = true then
    if (σ 32 v2.toNatClampNeg) = 2 then
      Mo_goOn_b309 v2 σ
    else
      if pmIn v2 8 = true then
      (Mo_wrongType (σ 31 v2.toNatClampNeg) σ).bind fun q306 =>
      Mo_goOn_b309 v2 q306
      else none
    else none

def Mo_goOn_b242 (v1 : Int32) (v2 : Int32) (v4 : Int32) (σ : Mem) : Option Mem :=
  if pmIn v2 8 = true then
  if pmIn v2 8 = true then
  Mo_goOn_b283 v1 v2 (mput σ 33 v2.toNatClampNeg ((σ 33 v2.toNatClampNeg) ||| v4))
  else none
  else none

def Mo_goOn_b222 (v1 : Int32) (v2 : Int32) (v3 : Int32) (v4 : Int32) (v5 : Int32) (σ : Mem) : Option Mem :=
  if pmIn v2 8 = true then
  if (σ 30 v2.toNatClampNeg) = 0 then
    if pmIn v2 8 = true then
    if pmIn v2 8 = true then
    if pmIn v2 8 = true then
    Mo_goOn_b283 v1 v2 (mput (mput (mput σ 32 v2.toNatClampNeg v3) 33 v2.toNatClampNeg v4) 31 v2.toNatClampNeg v5)
    else none
    else none
    else none
  else
    if v3 = 2 then
      Mo_goOn_b242 v1 v2 v4 σ
    else
      (Mo_wrongType v5 σ).bind fun q239 =>
      Mo_goOn_b242 v1 v2 v4 q239
  else none

def Mo_goOn_b189 (v1 : Int32) (v2 : Int32) (v3 : Int32) (v5 : Int32) (σ : Mem) : Option Mem :=
  if pmIn v2 8 = true then
  if pmIn v2 8 = true then
  if pmIn v2 8 = true then
  some (mput (mput (mput (mput σ 27 v2.toNatClampNeg v1) 29 v2.toNatClampNeg v3) 28 v2.toNatClampNeg v5) 0 14 (((mput (mput (mput σ 27 v2.toNatClampNeg v1) 29 v2.toNatClampNeg v3) 28 v2.toNatClampNeg v5) 0 14) + 1))
  else none
  else none
  else none

def Mo_goOn_b131 (v1 : Int32) (v2 : Int32) (σ : Mem) : Option Mem :=
  if pmIn v2 8 = true then
  (Mo_emit (σ 27 v2.toNatClampNeg) 0 σ).bind fun q139 =>
  if pmIn v2 8 = true then
  if pmIn v2 8 = true then
  Mo_goOn_b222 v1 v2 2 0 ((mput q139 27 v2.toNatClampNeg 0) 28 v2.toNatClampNeg) (mput q139 27 v2.toNatClampNeg 0)
  else none
  else none
  else none

def Mo_goOn_b122 (v1 : Int32) (v2 : Int32) (v5 : Int32) (s0 : Int32) (s1 : Int32) (σ : Mem) : Option Mem :=
  if s0 = s1 then
    Mo_goOn_b131 v1 v2 σ
  else
    (Mo_wrongType v5 σ).bind fun q128 =>
    Mo_goOn_b131 v1 v2 q128

def Mo_goOn (σ : Mem) : Option Mem :=
  (Mo_here σ).bind fun q1 =>
  if (q1.2 0 15) = 0 then
    if q1.1 = 43 then
      Mo_goOn_b30 q1.1 (q1.2 0 17) q1.2
    else
      if ¬ q1.1 = 45 then
        if pmIn (q1.2 0 17) 8 = true then
        if pmIn (q1.2 0 17) 8 = true then
        if pmIn (q1.2 0 17) 8 = true then
        if pmIn (q1.2 0 17) 8 = true then
        if (q1.2 27 (q1.2 0 17).toNatClampNeg) = 0 then
          if (Mo_isComparing q1.1) = 0 then
            Mo_goOn_b222 q1.1 (q1.2 0 17) (q1.2 25 (q1.2 0 17).toNatClampNeg) (q1.2 26 (q1.2 0 17).toNatClampNeg) (q1.2 24 (q1.2 0 17).toNatClampNeg) q1.2
          else
            if ¬ q1.1 = 60 then
              Mo_goOn_b189 q1.1 (q1.2 0 17) (q1.2 25 (q1.2 0 17).toNatClampNeg) (q1.2 24 (q1.2 0 17).toNatClampNeg) q1.2
            else
              if (q1.2 25 (q1.2 0 17).toNatClampNeg) = 1 then
                Mo_goOn_b189 q1.1 (q1.2 0 17) (q1.2 25 (q1.2 0 17).toNatClampNeg) (q1.2 24 (q1.2 0 17).toNatClampNeg) q1.2
              else
                (Mo_wrongType (q1.2 24 (q1.2 0 17).toNatClampNeg) q1.2).bind fun q186 =>
                Mo_goOn_b189 q1.1 (q1.2 0 17) (q1.2 25 (q1.2 0 17).toNatClampNeg) (q1.2 24 (q1.2 0 17).toNatClampNeg) q186
        else
          if pmIn (q1.2 0 17) 8 = true then
          if ¬ (q1.2 27 (q1.2 0 17).toNatClampNeg) = 60 then
            if pmIn (q1.2 0 17) 8 = true then
            Mo_goOn_b122 q1.1 (q1.2 0 17) (q1.2 24 (q1.2 0 17).toNatClampNeg) (q1.2 25 (q1.2 0 17).toNatClampNeg) (q1.2 29 (q1.2 0 17).toNatClampNeg) q1.2
            else none
          else
            Mo_goOn_b122 q1.1 (q1.2 0 17) (q1.2 24 (q1.2 0 17).toNatClampNeg) (q1.2 25 (q1.2 0 17).toNatClampNeg) 1 q1.2
          else none
        else none
        else none
        else none
        else none
      else
        Mo_goOn_b30 q1.1 (q1.2 0 17) q1.2
  else
    some q1.2

def Mo_readConditions_b248 (σ : Mem) : Option Mem :=
  if ¬ ((mput σ 0 14 ((σ 0 14) + 1)) 0 15) = 0 then
    some (mput σ 0 14 ((σ 0 14) + 1))
  else
    if ((mput σ 0 14 ((σ 0 14) + 1)) 0 4) ≤ ((mput σ 0 14 ((σ 0 14) + 1)) 0 14) then
      some (mput σ 0 14 ((σ 0 14) + 1))
    else
      (Mo_blame ((mput σ 0 14 ((σ 0 14) + 1)) 0 14) (mput σ 0 14 ((σ 0 14) + 1))).bind fun q281 =>
      some q281

def Mo_readConditions_b227 (v1 : Int32) (σ : Mem) : Option Mem :=
  if ¬ (σ 0 15) = 0 then
    Mo_readConditions_b248 σ
  else
    if v1 = 59 then
      Mo_readConditions_b248 σ
    else
      (Mo_blame (σ 0 14) σ).bind fun q245 =>
      Mo_readConditions_b248 q245

def Mo_readConditions_b208 (k5 : Int32 → Mem → Option Mem) (σ : Mem) : Option Mem :=
  if ¬ (σ 0 15) = 0 then
    k5 (-1) σ
  else
    (Mo_here σ).bind fun q216 =>
    k5 q216.1 q216.2

def Mo_readConditions_b161 (k5 : Int32 → Mem → Option Mem) (k98 : Int32 → Mem → Option Mem) (s0 : Int32) (σ : Mem) : Option Mem :=
  if s0 = 43 then
    k98 1 σ
  else
    if s0 = 45 then
      k98 1 σ
    else
      if ¬ (Mo_isComparing s0) = 0 then
        k98 1 σ
      else
        if s0 = 38 then
          k98 1 σ
        else
          if ¬ s0 = 124 then
            k98 0 σ
          else
            k98 1 σ

def Mo_readConditions_b160 (k5 : Int32 → Mem → Option Mem) (k98 : Int32 → Mem → Option Mem) (σ : Mem) : Option Mem :=
  Mo_readConditions_b161 k5 k98 0 σ

def Mo_readConditions_b136 (k5 : Int32 → Mem → Option Mem) (k98 : Int32 → Mem → Option Mem) (v3 : Int32) (σ : Mem) : Option Mem :=
  if ¬ (σ 0 15) = 0 then
    Mo_readConditions_b160 k5 k98 σ
  else
    if (σ 0 14) ≤ v3 then
      Mo_readConditions_b160 k5 k98 σ
    else
      if pmIn v3 160 = true then
      Mo_readConditions_b161 k5 k98 (σ 5 v3.toNatClampNeg) σ
      else none

def Mo_readConditions_b120 (k5 : Int32 → Mem → Option Mem) (k98 : Int32 → Mem → Option Mem) (σ : Mem) : Option Mem :=
  if ¬ (σ 0 15) = 0 then
    Mo_readConditions_b136 k5 k98 (σ 0 14) σ
  else
    (Mo_goOn σ).bind fun q133 =>
    Mo_readConditions_b136 k5 k98 (σ 0 14) q133

def Mo_readConditions_b98 (k5 : Int32 → Mem → Option Mem) : Nat → Int32 → Mem → Option Mem
  | 0, _, _ => none
  | n + 1, v2, σ =>
    if (σ 0 17) < 0 then
      Mo_readConditions_b208 k5 σ
    else
      if ¬ (σ 0 15) = 0 then
        Mo_readConditions_b208 k5 σ
      else
        if v2 = 0 then
          Mo_readConditions_b120 k5 (Mo_readConditions_b98 k5 n) σ
        else
          (Mo_readTerm σ).bind fun q117 =>
          Mo_readConditions_b120 k5 (Mo_readConditions_b98 k5 n) q117

def Mo_readConditions_b87 (k5 : Int32 → Mem → Option Mem) (s1 : Int32) (s2 : Int32) (σ : Mem) : Option Mem :=
  if pmIn s1 8 = true then
  (Mo_beginRow ((mput σ 16 s1.toNatClampNeg s2) 0 16) (mput σ 16 s1.toNatClampNeg s2)).bind fun q93 =>
  Mo_readConditions_b98 k5 FU 1 q93
  else none

def Mo_readConditions_b51 (k5 : Int32 → Mem → Option Mem) (v1 : Int32) (σ : Mem) : Option Mem :=
  (Mo_opn 1 (mput (mput σ 0 14 ((σ 0 14) + 1)) 0 17 (-1))).bind fun q68 =>
  if ¬ v1 = 63 then
    Mo_readConditions_b87 k5 0 1 q68
  else
    Mo_readConditions_b87 k5 0 0 q68

def Mo_readConditions_b24 (k5 : Int32 → Mem → Option Mem) (v1 : Int32) (σ : Mem) : Option Mem :=
  (Mo_here (mput σ 0 14 ((σ 0 14) + 1))).bind fun q35 =>
  if q35.1 = 123 then
    Mo_readConditions_b51 k5 v1 q35.2
  else
    (Mo_blame (q35.2 0 14) q35.2).bind fun q48 =>
    Mo_readConditions_b51 k5 v1 q48

def Mo_readConditions_b5  : Nat → Int32 → Mem → Option Mem
  | 0, _, _ => none
  | n + 1, v1, σ =>
    if ¬ (σ 0 15) = 0 then
      Mo_readConditions_b227 v1 σ
    else
      if v1 = 63 then
        Mo_readConditions_b24 (Mo_readConditions_b5 n) v1 σ
      else
        if ¬ v1 = 33 then
          Mo_readConditions_b227 v1 σ
        else
          Mo_readConditions_b24 (Mo_readConditions_b5 n) v1 σ

def Mo_readConditions (σ : Mem) : Option Mem :=
  (Mo_here σ).bind fun q1 =>
  Mo_readConditions_b5 FU q1.1 q1.2

def Mo_copy_b83  : Nat → Int32 → Int32 → Int32 → Mem → Option Mem
  | 0, _, _, _, _ => none
  | n + 1, v1, v2, v3, σ =>
    if 160 ≤ v3 then
      some σ
    else
      if pmIn ((160 * v1) + v3) 2720 = true then
      if pmIn ((160 * v2) + v3) 2720 = true then
      if pmIn ((160 * v1) + v3) 2720 = true then
      if pmIn ((160 * v2) + v3) 2720 = true then
      (Mo_copy_b83 n) v1 v2 (v3 + 1) (mput (mput σ 12 ((160 * v2) + v3).toNatClampNeg (σ 12 ((160 * v1) + v3).toNatClampNeg)) 13 ((160 * v2) + v3).toNatClampNeg ((mput σ 12 ((160 * v2) + v3).toNatClampNeg (σ 12 ((160 * v1) + v3).toNatClampNeg)) 13 ((160 * v1) + v3).toNatClampNeg))
      else none
      else none
      else none
      else none

def Mo_copy_b50  : Nat → Int32 → Int32 → Int32 → Mem → Option Mem
  | 0, _, _, _, _ => none
  | n + 1, v1, v2, v3, σ =>
    if 3 ≤ v3 then
      Mo_copy_b83 FU v1 v2 0 σ
    else
      if pmIn ((3 * v1) + v3) 51 = true then
      if pmIn ((3 * v2) + v3) 51 = true then
      (Mo_copy_b50 n) v1 v2 (v3 + 1) (mput σ 8 ((3 * v2) + v3).toNatClampNeg (σ 8 ((3 * v1) + v3).toNatClampNeg))
      else none
      else none

def Mo_copy (v1 : Int32) (v2 : Int32) (σ : Mem) : Option Mem :=
  if pmIn v1 17 = true then
  if pmIn v2 17 = true then
  if ((σ 7 v1.toNatClampNeg) == 0 || (σ 7 v1.toNatClampNeg) == 1) = true then
  if pmIn v1 17 = true then
  if pmIn v2 17 = true then
  if pmIn v1 17 = true then
  if pmIn v2 17 = true then
  if (((mput (mput σ 7 v2.toNatClampNeg (σ 7 v1.toNatClampNeg)) 9 v2.toNatClampNeg ((mput σ 7 v2.toNatClampNeg (σ 7 v1.toNatClampNeg)) 9 v1.toNatClampNeg)) 10 v1.toNatClampNeg) == 0 || ((mput (mput σ 7 v2.toNatClampNeg (σ 7 v1.toNatClampNeg)) 9 v2.toNatClampNeg ((mput σ 7 v2.toNatClampNeg (σ 7 v1.toNatClampNeg)) 9 v1.toNatClampNeg)) 10 v1.toNatClampNeg) == 1) = true then
  if pmIn v1 17 = true then
  if pmIn v2 17 = true then
  Mo_copy_b50 FU v1 v2 0 (mput (mput (mput (mput σ 7 v2.toNatClampNeg (σ 7 v1.toNatClampNeg)) 9 v2.toNatClampNeg ((mput σ 7 v2.toNatClampNeg (σ 7 v1.toNatClampNeg)) 9 v1.toNatClampNeg)) 10 v2.toNatClampNeg ((mput (mput σ 7 v2.toNatClampNeg (σ 7 v1.toNatClampNeg)) 9 v2.toNatClampNeg ((mput σ 7 v2.toNatClampNeg (σ 7 v1.toNatClampNeg)) 9 v1.toNatClampNeg)) 10 v1.toNatClampNeg)) 11 v2.toNatClampNeg ((mput (mput (mput σ 7 v2.toNatClampNeg (σ 7 v1.toNatClampNeg)) 9 v2.toNatClampNeg ((mput σ 7 v2.toNatClampNeg (σ 7 v1.toNatClampNeg)) 9 v1.toNatClampNeg)) 10 v2.toNatClampNeg ((mput (mput σ 7 v2.toNatClampNeg (σ 7 v1.toNatClampNeg)) 9 v2.toNatClampNeg ((mput σ 7 v2.toNatClampNeg (σ 7 v1.toNatClampNeg)) 9 v1.toNatClampNeg)) 10 v1.toNatClampNeg)) 11 v1.toNatClampNeg))
  else none
  else none
  else none
  else none
  else none
  else none
  else none
  else none
  else none
  else none

def Mo_add_b137 (v1 : Int32) (σ : Mem) : Option (Int32 × Mem) :=
  if (σ 0 15) = 0 then
    if pmIn v1 2 = true then
    if ¬ (σ 6 v1.toNatClampNeg) = 8 then
      if pmIn v1 2 = true then
      (Mo_copy 16 ((8 * v1) + (σ 6 v1.toNatClampNeg)) σ).bind fun q177 =>
      if pmIn v1 2 = true then
      if pmIn v1 2 = true then
      if pmIn v1 2 = true then
      some ((((mput q177 6 v1.toNatClampNeg ((q177 6 v1.toNatClampNeg) + 1)) 6 v1.toNatClampNeg) - 1), (mput q177 6 v1.toNatClampNeg ((q177 6 v1.toNatClampNeg) + 1)))
      else none
      else none
      else none
      else none
    else
      some ((-3), σ)
    else none
  else
    some ((σ 0 15), σ)

def Mo_add_b126 (v1 : Int32) (σ : Mem) : Option (Int32 × Mem) :=
  if ¬ (σ 0 15) = 0 then
    Mo_add_b137 v1 σ
  else
    (Mo_readConditions σ).bind fun q134 =>
    Mo_add_b137 v1 q134

def Mo_add_b103  : Nat → Int32 → Int32 → Mem → Option (Int32 × Mem)
  | 0, _, _, _ => none
  | n + 1, v1, v3, σ =>
    if 3 ≤ v3 then
      Mo_add_b126 v1 σ
    else
      if ¬ (σ 0 15) = 0 then
        Mo_add_b126 v1 σ
      else
        (Mo_readScope v3 σ).bind fun q117 =>
        (Mo_add_b103 n) v1 (v3 + 1) q117

def Mo_add_b95 (v1 : Int32) (s1 : Int32) (s2 : Int32) (σ : Mem) : Option (Int32 × Mem) :=
  if pmIn s1 17 = true then
  if (s2 == 0 || s2 == 1) = true then
  Mo_add_b103 FU v1 0 (mput (mput σ 7 s1.toNatClampNeg s2) 0 14 1)
  else none
  else none

def Mo_add_b78 (v1 : Int32) (v2 : Int32) (σ : Mem) : Option (Int32 × Mem) :=
  if ¬ v2 = 43 then
    Mo_add_b95 v1 16 0 σ
  else
    Mo_add_b95 v1 16 1 σ

def Mo_add (v1 : Int32) (σ : Mem) : Option (Int32 × Mem) :=
  if v1 < 0 then
    some ((-2), σ)
  else
    if v1 ≤ 1 then
      if pmIn 16 17 = true then
      if pmIn 16 17 = true then
      if pmIn 16 17 = true then
      (Mo_here (mput (mput (mput (mput (mput (mput (mput σ 0 14 0) 0 15 0) 0 16 0) 0 17 (-1)) 9 16 0) 10 16 1) 11 16 0)).bind fun q57 =>
      if q57.1 = 43 then
        Mo_add_b78 v1 q57.1 q57.2
      else
        if q57.1 = 45 then
          Mo_add_b78 v1 q57.1 q57.2
        else
          (Mo_blame 0 q57.2).bind fun q75 =>
          Mo_add_b78 v1 q57.1 q75
      else none
      else none
      else none
    else
      some ((-2), σ)

def Mo_isSet (v1 : Int32) : Int32 :=
  if v1 = 0 then
    1
  else
    if ¬ v1 = 1 then
      0
    else
      1

def Mo_isPolicy (v1 : Int32) (v2 : Int32) (σ : Mem) : Option Int32 :=
  if (Mo_isSet v1) = 0 then
    some 0
  else
    if v2 < 0 then
      some 0
    else
      if pmIn v1 2 = true then
      if (σ 6 v1.toNatClampNeg) ≤ v2 then
        some 0
      else
        some 1
      else none

def Mo_drop_b29  : Nat → Int32 → Int32 → Mem → Option (Int32 × Mem)
  | 0, _, _, _ => none
  | n + 1, v1, v3, σ =>
    if pmIn v1 2 = true then
    if ((8 * v1) + (σ 6 v1.toNatClampNeg)) ≤ v3 then
      if pmIn v1 2 = true then
      some ((σ 6 v1.toNatClampNeg), σ)
      else none
    else
      (Mo_copy (v3 + 1) v3 σ).bind fun q49 =>
      (Mo_drop_b29 n) v1 (v3 + 1) q49
    else none

def Mo_drop (v1 : Int32) (v2 : Int32) (σ : Mem) : Option (Int32 × Mem) :=
  (Mo_isPolicy v1 v2 σ).bind fun q3 =>
  if ¬ q3 = 0 then
    if pmIn v1 2 = true then
    if pmIn v1 2 = true then
    Mo_drop_b29 FU v1 ((8 * v1) + v2) (mput σ 6 v1.toNatClampNeg ((σ 6 v1.toNatClampNeg) - 1))
    else none
    else none
  else
    some ((-2), σ)

def Mo_size (v1 : Int32) (σ : Mem) : Option Int32 :=
  if (Mo_isSet v1) = 0 then
    some (-1)
  else
    if pmIn v1 2 = true then
    some (σ 6 v1.toNatClampNeg)
    else none

def Mo_personOf (v0 : Int32) : Int32 :=
  (v0 >>> (9 &&& 31))

def Mo_thingOf (v0 : Int32) : Int32 :=
  ((v0 >>> (5 &&& 31)) &&& 3)

def Mo_hasScope (v1 : Int32) (v2 : Int32) (v3 : Int32) (σ : Mem) : Option Int32 :=
  if v1 < 0 then
    some 1
  else
    if v1 = v2 then
      some 1
    else
      if v1 ≤ 3 then
        some 0
      else
        (Mo_within v3 v2 σ).bind fun q17 =>
        if ¬ ((q17 >>> ((v1 - 4) &&& 31)) &&& 1) = 1 then
          some 0
        else
          some 1

def Mo_valueOf (v1 : Int32) (v2 : Int32) (v3 : Int32) (σ : Mem) : Option Int32 :=
  if v1 = 70 then
    some 0
  else
  if v1 = 84 then
    some 1
  else
  if v1 = 98 then
    some ((v3 >>> (1 &&& 31)) &&& 1)
  else
  if v1 = 99 then
    some (v3 &&& 1)
  else
  if v1 = 102 then
    (Mo_within 2 (Mo_thingOf v3) σ).bind fun q233 =>
    some ((q233 >>> (v2 &&& 31)) &&& 1)
  else
  if v1 = 103 then
    (Mo_within 0 (Mo_personOf v3) σ).bind fun q221 =>
    some ((q221 >>> (v2 &&& 31)) &&& 1)
  else
  if v1 = 104 then
    if pmIn ((4 * (Mo_personOf v3)) + v2) 16 = true then
    if (σ 2 ((4 * (Mo_personOf v3)) + v2).toNatClampNeg) < 0 then
      some 0
    else
      some 1
    else none
  else
  if v1 = 108 then
    if pmIn (Mo_thingOf v3) 4 = true then
    some (σ 3 (Mo_thingOf v3).toNatClampNeg)
    else none
  else
  if v1 = 109 then
    if pmIn ((4 * (Mo_personOf v3)) + v2) 16 = true then
    some (σ 2 ((4 * (Mo_personOf v3)) + v2).toNatClampNeg)
    else none
  else
  if v1 = 110 then
    some ((v3 >>> (2 &&& 31)) &&& 7)
  else
  if v1 = 111 then
    if pmIn (Mo_thingOf v3) 4 = true then
    if ¬ (σ 4 (Mo_thingOf v3).toNatClampNeg) = (Mo_personOf v3) then
      some 0
    else
      some 1
    else none
  else
    some v2

def Mo_reckon (v0 : Int32) (v1 : Int32) (v2 : Int32) : Int32 :=
  if v0 = 43 then
    (v1 + v2)
  else
  if v0 = 45 then
    (v1 - v2)
  else
  if v0 = 60 then
    if v2 ≤ v1 then
      0
    else
      1
  else
  if v0 = 61 then
    if ¬ v1 = v2 then
      0
    else
      1
  else
    if v1 = v2 then
      0
    else
      1

def Mo_isSign (v0 : Int32) : Int32 :=
  if v0 = 43 then
    1
  else
    if v0 = 45 then
      1
    else
      if v0 = 60 then
        1
      else
        if v0 = 61 then
          1
        else
          if ¬ v0 = 35 then
            0
          else
            1

def Mo_work_b175 (k88 : Int32 → Int32 → Int32 → Int32 → Mem → Option (Int32 × Mem)) (v1 : Int32) (v2 : Int32) (v5 : Int32) (v6 : Int32) (s0 : Int32) (s1 : Int32) (σ : Mem) : Option (Int32 × Mem) :=
  if s0 = s1 then
    k88 v1 v2 v5 v6 σ
  else
    some (0, σ)

def Mo_work_b164 (k88 : Int32 → Int32 → Int32 → Int32 → Mem → Option (Int32 × Mem)) (v1 : Int32) (v2 : Int32) (v5 : Int32) (v6 : Int32) (v7 : Int32) (s0 : Int32) (σ : Mem) : Option (Int32 × Mem) :=
  if ¬ v7 = 5 then
    Mo_work_b175 k88 v1 v2 v5 v6 s0 0 σ
  else
    Mo_work_b175 k88 v1 v2 v5 v6 s0 1 σ

def Mo_work_b145 (k88 : Int32 → Int32 → Int32 → Int32 → Mem → Option (Int32 × Mem)) (v1 : Int32) (v2 : Int32) (v5 : Int32) (v6 : Int32) (v7 : Int32) (σ : Mem) : Option (Int32 × Mem) :=
  if pmIn (v5 + (-1)) 40 = true then
  if ¬ (σ 41 (v5 + (-1)).toNatClampNeg) = 1 then
    Mo_work_b164 k88 v1 v2 (v5 + (-1)) v6 v7 0 σ
  else
    Mo_work_b164 k88 v1 v2 (v5 + (-1)) v6 v7 1 σ
  else none

def Mo_work_b286 (k88 : Int32 → Int32 → Int32 → Int32 → Mem → Option (Int32 × Mem)) (v1 : Int32) (v2 : Int32) (v5 : Int32) (v9 : Int32) (s0 : Int32) (σ : Mem) : Option (Int32 × Mem) :=
  if v9 = 0 then
    k88 v1 v2 (v5 - 1) s0 σ
  else
    k88 v1 v2 v5 s0 σ

def Mo_work_b272 (k88 : Int32 → Int32 → Int32 → Int32 → Mem → Option (Int32 × Mem)) (v1 : Int32) (v2 : Int32) (v5 : Int32) (v6 : Int32) (v8 : Int32) (s0 : Int32) (σ : Mem) : Option (Int32 × Mem) :=
  if s0 = 0 then
    Mo_work_b286 k88 v1 v2 v5 s0 v6 σ
  else
    Mo_work_b286 k88 v1 v2 v5 s0 v8 σ

def Mo_work_b264 (k88 : Int32 → Int32 → Int32 → Int32 → Mem → Option (Int32 × Mem)) (v1 : Int32) (v2 : Int32) (v5 : Int32) (v6 : Int32) (v8 : Int32) (s0 : Int32) (s1 : Int32) (σ : Mem) : Option (Int32 × Mem) :=
  if ¬ s0 = s1 then
    Mo_work_b272 k88 v1 v2 v5 v6 v8 0 σ
  else
    Mo_work_b272 k88 v1 v2 v5 v6 v8 1 σ

def Mo_work_b253 (k88 : Int32 → Int32 → Int32 → Int32 → Mem → Option (Int32 × Mem)) (v1 : Int32) (v2 : Int32) (v5 : Int32) (v6 : Int32) (v7 : Int32) (v8 : Int32) (s0 : Int32) (σ : Mem) : Option (Int32 × Mem) :=
  if ¬ v7 = 1 then
    Mo_work_b264 k88 v1 v2 v5 v6 v8 s0 0 σ
  else
    Mo_work_b264 k88 v1 v2 v5 v6 v8 s0 1 σ

def Mo_work_b236 (k88 : Int32 → Int32 → Int32 → Int32 → Mem → Option (Int32 × Mem)) (v1 : Int32) (v2 : Int32) (v5 : Int32) (v6 : Int32) (v7 : Int32) (v8 : Int32) (σ : Mem) : Option (Int32 × Mem) :=
  if pmIn (v5 - 1) 40 = true then
  if ¬ (σ 41 (v5 - 1).toNatClampNeg) = 0 then
    Mo_work_b253 k88 v1 v2 v5 v6 v7 v8 0 σ
  else
    Mo_work_b253 k88 v1 v2 v5 v6 v7 v8 1 σ
  else none

def Mo_work_b88  : Nat → Int32 → Int32 → Int32 → Int32 → Mem → Option (Int32 × Mem)
  | 0, _, _, _, _, _ => none
  | n + 1, v1, v2, v5, v6, σ =>
    if pmIn v1 17 = true then
    if (σ 11 v1.toNatClampNeg) ≤ v6 then
      some (1, σ)
    else
      if pmIn ((160 * v1) + v6) 2720 = true then
      if pmIn ((160 * v1) + v6) 2720 = true then
      if (σ 12 ((160 * v1) + v6).toNatClampNeg) = 5 then
        Mo_work_b145 (Mo_work_b88 n) v1 v2 v5 (v6 + 1) (σ 12 ((160 * v1) + v6).toNatClampNeg) σ
      else
        if ¬ (σ 12 ((160 * v1) + v6).toNatClampNeg) = 6 then
          if ¬ (σ 12 ((160 * v1) + v6).toNatClampNeg) = 4 then
            if ¬ (σ 12 ((160 * v1) + v6).toNatClampNeg) = 3 then
              if (σ 12 ((160 * v1) + v6).toNatClampNeg) = 1 then
                Mo_work_b236 (Mo_work_b88 n) v1 v2 v5 (v6 + 1) (σ 12 ((160 * v1) + v6).toNatClampNeg) (σ 13 ((160 * v1) + v6).toNatClampNeg) σ
              else
                if ¬ (σ 12 ((160 * v1) + v6).toNatClampNeg) = 2 then
                  if ¬ (σ 12 ((160 * v1) + v6).toNatClampNeg) = 33 then
                    if (Mo_isSign (σ 12 ((160 * v1) + v6).toNatClampNeg)) = 0 then
                      (Mo_valueOf (σ 12 ((160 * v1) + v6).toNatClampNeg) (σ 13 ((160 * v1) + v6).toNatClampNeg) v2 σ).bind fun q387 =>
                      if 0 ≤ q387 then
                        if pmIn v5 40 = true then
                        (Mo_work_b88 n) v1 v2 (v5 + 1) (v6 + 1) (mput σ 41 v5.toNatClampNeg q387)
                        else none
                      else
                        some ((-1), σ)
                    else
                      if pmIn ((v5 + (-1)) - 1) 40 = true then
                      if pmIn (v5 + (-1)) 40 = true then
                      if pmIn ((v5 + (-1)) - 1) 40 = true then
                      (Mo_work_b88 n) v1 v2 (v5 + (-1)) (v6 + 1) (mput σ 41 ((v5 + (-1)) - 1).toNatClampNeg (Mo_reckon (σ 12 ((160 * v1) + v6).toNatClampNeg) (σ 41 ((v5 + (-1)) - 1).toNatClampNeg) (σ 41 (v5 + (-1)).toNatClampNeg)))
                      else none
                      else none
                      else none
                  else
                    if pmIn (v5 - 1) 40 = true then
                    if pmIn (v5 - 1) 40 = true then
                    (Mo_work_b88 n) v1 v2 v5 (v6 + 1) (mput σ 41 (v5 - 1).toNatClampNeg (1 - (σ 41 (v5 - 1).toNatClampNeg)))
                    else none
                    else none
                else
                  Mo_work_b236 (Mo_work_b88 n) v1 v2 v5 (v6 + 1) (σ 12 ((160 * v1) + v6).toNatClampNeg) (σ 13 ((160 * v1) + v6).toNatClampNeg) σ
            else
              if pmIn (v5 + (-1)) 40 = true then
              if ¬ (σ 41 (v5 + (-1)).toNatClampNeg) = 0 then
                (Mo_work_b88 n) v1 v2 (v5 + (-1)) (v6 + 1) σ
              else
                (Mo_work_b88 n) v1 v2 (v5 + (-1)) (σ 13 ((160 * v1) + v6).toNatClampNeg) σ
              else none
          else
            (Mo_work_b88 n) v1 v2 v5 (σ 13 ((160 * v1) + v6).toNatClampNeg) σ
        else
          Mo_work_b145 (Mo_work_b88 n) v1 v2 v5 (v6 + 1) (σ 12 ((160 * v1) + v6).toNatClampNeg) σ
      else none
      else none
    else none

def Mo_work_b47 (v1 : Int32) (v2 : Int32) (s0 : Int32) (σ : Mem) : Option (Int32 × Mem) :=
  if pmIn ((3 * v1) + 1) 51 = true then
  if s0 = 0 then
    some (0, σ)
  else
    if (σ 8 ((3 * v1) + 1).toNatClampNeg) < 0 then
      Mo_work_b88 FU v1 v2 0 0 σ
    else
      if (σ 8 ((3 * v1) + 1).toNatClampNeg) = ((v2 >>> (7 &&& 31)) &&& 3) then
        Mo_work_b88 FU v1 v2 0 0 σ
      else
        some (0, σ)
  else none

def Mo_work_b46 (v1 : Int32) (v2 : Int32) (σ : Mem) : Option (Int32 × Mem) :=
  Mo_work_b47 v1 v2 0 σ

def Mo_work (v1 : Int32) (v2 : Int32) (σ : Mem) : Option (Int32 × Mem) :=
  if pmIn (3 * v1) 51 = true then
  (Mo_hasScope (σ 8 (3 * v1).toNatClampNeg) (Mo_personOf v2) 0 σ).bind fun q14 =>
  if q14 = 0 then
    Mo_work_b46 v1 v2 σ
  else
    if pmIn ((3 * v1) + 2) 51 = true then
    (Mo_hasScope (σ 8 ((3 * v1) + 2).toNatClampNeg) (Mo_thingOf v2) 2 σ).bind fun q36 =>
    if q36 = 0 then
      Mo_work_b46 v1 v2 σ
    else
      Mo_work_b47 v1 v2 1 σ
    else none
  else none

def Mo_allowed_b67 (k9 : Int32 → Int32 → Int32 → Int32 → Int32 → Int32 → Mem → Option (Int32 × Mem)) (v1 : Int32) (v2 : Int32) (v3 : Int32) (v5 : Int32) (v6 : Int32) (s0 : Int32) (σ : Mem) : Option (Int32 × Mem) :=
  if ¬ v5 = 0 then
    k9 v1 v2 v3 s0 1 (v6 + 1) σ
  else
    if pmIn ((8 * v1) + v6) 17 = true then
    if ¬ (σ 7 ((8 * v1) + v6).toNatClampNeg) = 0 then
      k9 v1 v2 v3 s0 0 (v6 + 1) σ
    else
      k9 v1 v2 v3 s0 1 (v6 + 1) σ
    else none

def Mo_allowed_b62 (k9 : Int32 → Int32 → Int32 → Int32 → Int32 → Int32 → Mem → Option (Int32 × Mem)) (v1 : Int32) (v2 : Int32) (v3 : Int32) (v5 : Int32) (v6 : Int32) (σ : Mem) : Option (Int32 × Mem) :=
  Mo_allowed_b67 k9 v1 v2 v3 v5 v6 1 σ

def Mo_allowed_b9  : Nat → Int32 → Int32 → Int32 → Int32 → Int32 → Int32 → Mem → Option (Int32 × Mem)
  | 0, _, _, _, _, _, _, _ => none
  | n + 1, v1, v2, v3, v4, v5, v6, σ =>
    if pmIn v1 2 = true then
    if (σ 6 v1.toNatClampNeg) ≤ v6 then
      if v4 = 0 then
        some (0, σ)
      else
        if ¬ v5 = 0 then
          some (0, σ)
        else
          some (1, σ)
    else
      if v6 = v3 then
        (Mo_allowed_b9 n) v1 v2 v3 v4 v5 (v6 + 1) σ
      else
        (Mo_work ((8 * v1) + v6) v2 σ).bind fun q35 =>
        if ¬ q35.1 = 1 then
          (Mo_allowed_b9 n) v1 v2 v3 v4 v5 (v6 + 1) q35.2
        else
          if ¬ v4 = 0 then
            Mo_allowed_b62 (Mo_allowed_b9 n) v1 v2 v3 v5 v6 q35.2
          else
            if pmIn ((8 * v1) + v6) 17 = true then
            if (q35.2 7 ((8 * v1) + v6).toNatClampNeg) = 0 then
              Mo_allowed_b67 (Mo_allowed_b9 n) v1 v2 v3 v5 v6 0 q35.2
            else
              Mo_allowed_b62 (Mo_allowed_b9 n) v1 v2 v3 v5 v6 q35.2
            else none
    else none

def Mo_allowed (v1 : Int32) (v2 : Int32) (v3 : Int32) (σ : Mem) : Option (Int32 × Mem) :=
  Mo_allowed_b9 FU v1 v2 v3 0 0 0 σ

def Mo_policy_b119 (k93 : Int32 → Int32 → Int32 → Int32 → Mem → Option (Int32 × Mem)) (v3 : Int32) (v4 : Int32) (v5 : Int32) (v6 : Int32) (s0 : Int32) (s1 : Int32) (σ : Mem) : Option (Int32 × Mem) :=
  if ¬ s0 = s1 then
    k93 v3 v4 v5 (v6 + 1) σ
  else
    k93 v3 v4 (v5 + 1) (v6 + 1) σ

def Mo_policy_b93  : Nat → Int32 → Int32 → Int32 → Int32 → Mem → Option (Int32 × Mem)
  | 0, _, _, _, _, _ => none
  | n + 1, v3, v4, v5, v6, σ =>
    if 2048 ≤ v6 then
      some (v5, σ)
    else
      (Mo_work v4 v6 σ).bind fun q106 =>
      if ¬ v3 = 3 then
        Mo_policy_b119 (Mo_policy_b93 n) v3 v4 v5 v6 q106.1 (-1) q106.2
      else
        Mo_policy_b119 (Mo_policy_b93 n) v3 v4 v5 v6 q106.1 1 q106.2

def Mo_policy (v1 : Int32) (v2 : Int32) (v3 : Int32) (σ : Mem) : Option (Int32 × Mem) :=
  (Mo_isPolicy v1 v2 σ).bind fun q3 =>
  if q3 = 0 then
    some ((-2), σ)
  else
    if v3 < 0 then
      some ((-2), σ)
    else
      if v3 ≤ 4 then
        if 3 ≤ v3 then
          Mo_policy_b93 FU v3 ((8 * v1) + v2) 0 0 σ
        else
          if ¬ v3 = 0 then
            if ¬ v3 = 1 then
              if pmIn ((8 * v1) + v2) 17 = true then
              if (σ 10 ((8 * v1) + v2).toNatClampNeg) = 0 then
                some (0, σ)
              else
                some (1, σ)
              else none
            else
              if pmIn ((8 * v1) + v2) 17 = true then
              some ((σ 9 ((8 * v1) + v2).toNatClampNeg), σ)
              else none
          else
            if pmIn ((8 * v1) + v2) 17 = true then
            if (σ 7 ((8 * v1) + v2).toNatClampNeg) = 0 then
              some (0, σ)
            else
              some (1, σ)
            else none
      else
        some ((-2), σ)

def Mo_ask_b90 (k57 : Int32 → Int32 → Int32 → Int32 → Int32 → Mem → Option (Int32 × Mem)) (v1 : Int32) (v2 : Int32) (v3 : Int32) (v4 : Int32) (v5 : Int32) (s0 : Int32) (s1 : Int32) (σ : Mem) : Option (Int32 × Mem) :=
  if ¬ s0 = s1 then
    k57 v1 v2 v3 v4 (v5 + 1) σ
  else
    k57 v1 v2 v3 (v4 ||| (1 <<< (v5 &&& 31))) (v5 + 1) σ

def Mo_ask_b57  : Nat → Int32 → Int32 → Int32 → Int32 → Int32 → Mem → Option (Int32 × Mem)
  | 0, _, _, _, _, _, _ => none
  | n + 1, v1, v2, v3, v4, v5, σ =>
    if pmIn v1 2 = true then
    if (σ 6 v1.toNatClampNeg) ≤ v5 then
      some (v4, σ)
    else
      (Mo_work ((8 * v1) + v5) v2 σ).bind fun q77 =>
      if ¬ v3 = 1 then
        Mo_ask_b90 (Mo_ask_b57 n) v1 v2 v3 v4 v5 q77.1 (-1) q77.2
      else
        Mo_ask_b90 (Mo_ask_b57 n) v1 v2 v3 v4 v5 q77.1 1 q77.2
    else none

def Mo_ask (v1 : Int32) (v2 : Int32) (v3 : Int32) (σ : Mem) : Option (Int32 × Mem) :=
  if (Mo_isSet v1) = 0 then
    some ((-2), σ)
  else
    if v2 < 0 then
      some ((-2), σ)
    else
      if 2047 < v2 then
        some ((-2), σ)
      else
        if v3 < 0 then
          some ((-2), σ)
        else
          if v3 ≤ 2 then
            if ¬ v3 = 0 then
              Mo_ask_b57 FU v1 v2 v3 0 0 σ
            else
              (Mo_allowed v1 v2 (-1) σ).bind fun q39 =>
              if q39.1 = 0 then
                some (0, q39.2)
              else
                some (1, q39.2)
          else
            some ((-2), σ)

def Mo_allows_b31  : Nat → Int32 → Int32 → Int32 → Int32 → Int32 → Int32 → Mem → Option (Int32 × Mem)
  | 0, _, _, _, _, _, _, _ => none
  | n + 1, v1, v2, v3, v4, v5, v6, σ =>
    if 2048 ≤ v6 then
      if ¬ v2 = 0 then
        if ¬ v2 = 1 then
          some (v5, σ)
        else
          some (v4, σ)
      else
        some (v3, σ)
    else
      (Mo_allowed v1 v6 (-1) σ).bind fun q44 =>
      if q44.1 = 0 then
        (Mo_allows_b31 n) v1 v2 v3 v4 v5 (v6 + 1) q44.2
      else
        if 0 ≤ v4 then
          (Mo_allows_b31 n) v1 v2 (v3 + 1) v4 v6 (v6 + 1) q44.2
        else
          (Mo_allows_b31 n) v1 v2 (v3 + 1) v6 v6 (v6 + 1) q44.2

def Mo_allows (v1 : Int32) (v2 : Int32) (σ : Mem) : Option (Int32 × Mem) :=
  if (Mo_isSet v1) = 0 then
    some ((-2), σ)
  else
    if v2 < 0 then
      some ((-2), σ)
    else
      if v2 ≤ 2 then
        Mo_allows_b31 FU v1 v2 0 (-1) (-1) 0 σ
      else
        some ((-2), σ)

def Mo_compare_b85 (k22 : Int32 → Int32 → Int32 → Int32 → Int32 → Mem → Option (Int32 × Mem)) (v1 : Int32) (v2 : Int32) (v4 : Int32) (v5 : Int32) (v6 : Int32) (v7 : Int32) (s0 : Int32) (σ : Mem) : Option (Int32 × Mem) :=
  if 0 ≤ v4 then
    k22 v1 v2 s0 v4 (v5 + 1) σ
  else
    if v6 = v7 then
      k22 v1 v2 s0 v4 (v5 + 1) σ
    else
      k22 v1 v2 s0 v5 (v5 + 1) σ

def Mo_compare_b84 (k22 : Int32 → Int32 → Int32 → Int32 → Int32 → Mem → Option (Int32 × Mem)) (v1 : Int32) (v2 : Int32) (v3 : Int32) (v4 : Int32) (v5 : Int32) (v6 : Int32) (v7 : Int32) (σ : Mem) : Option (Int32 × Mem) :=
  Mo_compare_b85 k22 v1 v2 v4 v5 v6 v7 v3 σ

def Mo_compare_b67 (k22 : Int32 → Int32 → Int32 → Int32 → Int32 → Mem → Option (Int32 × Mem)) (v1 : Int32) (v3 : Int32) (v4 : Int32) (v5 : Int32) (v6 : Int32) (v7 : Int32) (s0 : Int32) (σ : Mem) : Option (Int32 × Mem) :=
  if v7 = 0 then
    Mo_compare_b84 k22 v1 s0 v3 v4 v5 v6 v7 σ
  else
    if ¬ v6 = 0 then
      Mo_compare_b84 k22 v1 s0 v3 v4 v5 v6 v7 σ
    else
      Mo_compare_b85 k22 v1 s0 v4 v5 v6 v7 (v3 + 1) σ

def Mo_compare_b66 (k22 : Int32 → Int32 → Int32 → Int32 → Int32 → Mem → Option (Int32 × Mem)) (v1 : Int32) (v2 : Int32) (v3 : Int32) (v4 : Int32) (v5 : Int32) (v6 : Int32) (v7 : Int32) (σ : Mem) : Option (Int32 × Mem) :=
  Mo_compare_b67 k22 v1 v3 v4 v5 v6 v7 v2 σ

def Mo_compare_b22  : Nat → Int32 → Int32 → Int32 → Int32 → Int32 → Mem → Option (Int32 × Mem)
  | 0, _, _, _, _, _, _ => none
  | n + 1, v1, v2, v3, v4, v5, σ =>
    if 2048 ≤ v5 then
      if ¬ v1 = 0 then
        if ¬ v1 = 1 then
          some (v4, σ)
        else
          some (v3, σ)
      else
        some (v2, σ)
    else
      (Mo_allowed 0 v5 (-1) σ).bind fun q35 =>
      (Mo_allowed 1 v5 (-1) q35.2).bind fun q45 =>
      if q35.1 = 0 then
        Mo_compare_b66 (Mo_compare_b22 n) v1 v2 v3 v4 v5 q35.1 q45.1 q45.2
      else
        if ¬ q45.1 = 0 then
          Mo_compare_b66 (Mo_compare_b22 n) v1 v2 v3 v4 v5 q35.1 q45.1 q45.2
        else
          Mo_compare_b67 (Mo_compare_b22 n) v1 v3 v4 v5 q35.1 q45.1 (v2 + 1) q45.2

def Mo_compare (v1 : Int32) (σ : Mem) : Option (Int32 × Mem) :=
  if v1 < 0 then
    some ((-2), σ)
  else
    if v1 ≤ 2 then
      Mo_compare_b22 FU v1 0 0 (-1) 0 σ
    else
      some ((-2), σ)

def Mo_needless_b60 (v3 : Int32) (σ : Mem) : Option (Int32 × Mem) :=
  if v3 = 0 then
    some (0, σ)
  else
    some (1, σ)

def Mo_needless_b17  : Nat → Int32 → Int32 → Int32 → Int32 → Mem → Option (Int32 × Mem)
  | 0, _, _, _, _, _ => none
  | n + 1, v1, v2, v3, v4, σ =>
    if 2048 ≤ v4 then
      Mo_needless_b60 v3 σ
    else
      if v3 = 0 then
        Mo_needless_b60 v3 σ
      else
        (Mo_allowed v1 v4 (-1) σ).bind fun q34 =>
        (Mo_allowed v1 v4 v2 q34.2).bind fun q42 =>
        if ¬ q34.1 = q42.1 then
          (Mo_needless_b17 n) v1 v2 0 (v4 + 1) q42.2
        else
          (Mo_needless_b17 n) v1 v2 1 (v4 + 1) q42.2

def Mo_needless (v1 : Int32) (v2 : Int32) (σ : Mem) : Option (Int32 × Mem) :=
  (Mo_isPolicy v1 v2 σ).bind fun q3 =>
  if ¬ q3 = 0 then
    Mo_needless_b17 FU v1 v2 1 0 σ
  else
    some ((-2), σ)
