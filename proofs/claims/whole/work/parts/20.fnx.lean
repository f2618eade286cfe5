def Ps_isKind (v0 : Int32) : Int32 :=
  if v0 < 0 then
    0
  else
    if 3 < v0 then
      0
    else
      1

def Ps_isOne (v0 : Int32) : Int32 :=
  if v0 < 0 then
    0
  else
    if 4 ≤ v0 then
      0
    else
      1

def Ps_hasBit (v0 : Int32) (v1 : Int32) : Int32 :=
  if ¬ ((v0 >>> (v1 &&& 31)) &&& 1) = 1 then
    0
  else
    1

def Ne_upward_b12 (k4 : Nat → Int32 → Int32 → Mem → Option Int32) : Nat → Nat → Int32 → Int32 → Int32 → Mem → Option Int32
  | 0, _, _, _, _, _ => none
  | n + 1, v0, v2, v3, v4, σ =>
    if 4 ≤ v4 then
      k4 v0 v2 (v3 + 1) σ
    else
      if (Ps_hasBit v2 v4) = 0 then
        (Ne_upward_b12 k4 n) v0 (v2 ||| 0) v3 (v4 + 1) σ
      else
        if pmIn v4 4 = true then
        (Ne_upward_b12 k4 n) v0 (v2 ||| (σ (v0 + 2) v4.toNatClampNeg)) v3 (v4 + 1) σ
        else none

def Ne_upward_b4  : Nat → Nat → Int32 → Int32 → Mem → Option Int32
  | 0, _, _, _, _ => none
  | n + 1, v0, v2, v3, σ =>
    if 4 ≤ v3 then
      some v2
    else
      Ne_upward_b12 (Ne_upward_b4 n) FU v0 v2 v3 0 σ

def Ne_upward (v0 : Nat) (v1 : Int32) (σ : Mem) : Option Int32 :=
  Ne_upward_b4 FU v0 v1 0 σ

def Ne_reach_b2  : Nat → Nat → Int32 → Mem → Option Mem
  | 0, _, _, _ => none
  | n + 1, v0, v1, σ =>
    if 4 ≤ v1 then
      some σ
    else
      if pmIn v1 4 = true then
      (Ne_upward v0 (σ (v0 + 1) v1.toNatClampNeg) σ).bind fun q19 =>
      if pmIn v1 4 = true then
      (Ne_reach_b2 n) v0 (v1 + 1) (mput σ (v0 + 3) v1.toNatClampNeg q19)
      else none
      else none

def Ne_reach (v0 : Nat) (σ : Mem) : Option Mem :=
  Ne_reach_b2 FU v0 0 σ

def Ne_link_b35 (v0 : Nat) (v2 : Int32) (v3 : Int32) (s0 : Nat) (σ : Mem) : Option (Int32 × Mem) :=
  if pmIn v2 4 = true then
  if pmIn v2 4 = true then
  (Ne_reach v0 (mput σ s0 v2.toNatClampNeg ((σ s0 v2.toNatClampNeg) ||| (1 <<< (v3 &&& 31))))).bind fun q48 =>
  some (1, q48)
  else none
  else none

def Ne_link_b20 (v0 : Nat) (v1 : Int32) (v2 : Int32) (v3 : Int32) (σ : Mem) : Option (Int32 × Mem) :=
  if v1 = 0 then
    Ne_link_b35 v0 v2 v3 (v0 + 1) σ
  else
    Ne_link_b35 v0 v2 v3 (v0 + 2) σ

def Ne_link (v0 : Nat) (v1 : Int32) (v2 : Int32) (v3 : Int32) (σ : Mem) : Option (Int32 × Mem) :=
  if v1 = 0 then
    Ne_link_b20 v0 v1 v2 v3 σ
  else
    (Ne_upward v0 (1 <<< (v3 &&& 31)) σ).bind fun q8 =>
    if (Ps_hasBit q8 v2) = 0 then
      Ne_link_b20 v0 v1 v2 v3 σ
    else
      some (0, σ)

def Wo_movesHolder (v0 : Int32) : Int32 :=
  if ¬ (v0 - v0 / 2 * 2) = 1 then
    0
  else
    1

def Wo_nestOf (v1 : Int32) (σ : Mem) : Option Nat :=
  if 2 ≤ v1 then
    some 6
  else
    some 2

def Wo_link (v1 : Int32) (v2 : Int32) (v3 : Int32) (σ : Mem) : Option (Int32 × Mem) :=
  (Wo_nestOf v1 (mput σ 1 5 ((σ 1 5) + 1))).bind fun q12 =>
  (Ne_link q12 (Wo_movesHolder v1) v2 v3 (mput σ 1 5 ((σ 1 5) + 1))).bind fun q21 =>
  if (q21.1 == 0 || q21.1 == 1) = true then some (q21.1, q21.2) else none

def Ps_join (v1 : Int32) (v2 : Int32) (v3 : Int32) (σ : Mem) : Option (Int32 × Mem) :=
  if (Ps_isKind v1) = 0 then
    some (0, σ)
  else
    if (Ps_isOne v2) = 0 then
      some (0, σ)
    else
      if (Ps_isOne v3) = 0 then
        some (0, σ)
      else
        (Wo_link v1 v2 v3 σ).bind fun q28 =>
        if q28.1 = 0 then
          some (0, q28.2)
        else
          some (1, q28.2)

def Ne_unlink_b15 (v0 : Nat) (v2 : Int32) (v3 : Int32) (s0 : Nat) (σ : Mem) : Option (Int32 × Mem) :=
  if pmIn v2 4 = true then
  if pmIn v2 4 = true then
  if pmIn v2 4 = true then
  (Ne_reach v0 (mput σ s0 v2.toNatClampNeg ((σ s0 v2.toNatClampNeg) &&& ((1 <<< (v3 &&& 31)) ^^^ (-1))))).bind fun q40 =>
  if ((Ps_hasBit (σ s0 v2.toNatClampNeg) v3) == 0 || (Ps_hasBit (σ s0 v2.toNatClampNeg) v3) == 1) = true then some ((Ps_hasBit (σ s0 v2.toNatClampNeg) v3), q40) else none
  else none
  else none
  else none

def Ne_unlink (v0 : Nat) (v1 : Int32) (v2 : Int32) (v3 : Int32) (σ : Mem) : Option (Int32 × Mem) :=
  if v1 = 0 then
    Ne_unlink_b15 v0 v2 v3 (v0 + 1) σ
  else
    Ne_unlink_b15 v0 v2 v3 (v0 + 2) σ

def Wo_unlink (v1 : Int32) (v2 : Int32) (v3 : Int32) (σ : Mem) : Option (Int32 × Mem) :=
  (Wo_nestOf v1 (mput σ 1 5 ((σ 1 5) + 1))).bind fun q12 =>
  (Ne_unlink q12 (Wo_movesHolder v1) v2 v3 (mput σ 1 5 ((σ 1 5) + 1))).bind fun q21 =>
  if (q21.1 == 0 || q21.1 == 1) = true then some (q21.1, q21.2) else none

def Ps_leave (v1 : Int32) (v2 : Int32) (v3 : Int32) (σ : Mem) : Option (Int32 × Mem) :=
  if (Ps_isKind v1) = 0 then
    some (0, σ)
  else
    if (Ps_isOne v2) = 0 then
      some (0, σ)
    else
      if (Ps_isOne v3) = 0 then
        some (0, σ)
      else
        (Wo_unlink v1 v2 v3 σ).bind fun q28 =>
        if q28.1 = 0 then
          some (0, q28.2)
        else
          some (1, q28.2)

def Ps_isNumber (v0 : Int32) : Int32 :=
  if v0 < 0 then
    0
  else
    if 7 < v0 then
      0
    else
      1

def Wo_setMark (v1 : Int32) (v2 : Int32) (v3 : Int32) (σ : Mem) : Option Mem :=
  if pmIn ((v1 * 4) + v2) 16 = true then
  some (mput (mput σ 1 5 ((σ 1 5) + 1)) 10 ((v1 * 4) + v2).toNatClampNeg v3)
  else none

def Ps_mark_b31 (v1 : Int32) (v2 : Int32) (v3 : Int32) (s0 : Int32) (σ : Mem) : Option (Int32 × Mem) :=
  if s0 = 0 then
    if (s0 == 0 || s0 == 1) = true then some (s0, σ) else none
  else
    (Wo_setMark v1 v2 v3 σ).bind fun q45 =>
    if (s0 == 0 || s0 == 1) = true then some (s0, q45) else none

def Ps_mark_b30 (v1 : Int32) (v2 : Int32) (v3 : Int32) (σ : Mem) : Option (Int32 × Mem) :=
  Ps_mark_b31 v1 v2 v3 0 σ

def Ps_mark_b26 (v1 : Int32) (v2 : Int32) (v3 : Int32) (σ : Mem) : Option (Int32 × Mem) :=
  Ps_mark_b31 v1 v2 v3 1 σ

def Ps_mark (v1 : Int32) (v2 : Int32) (v3 : Int32) (σ : Mem) : Option (Int32 × Mem) :=
  if (Ps_isOne v1) = 0 then
    Ps_mark_b30 v1 v2 v3 σ
  else
    if (Ps_isOne v2) = 0 then
      Ps_mark_b30 v1 v2 v3 σ
    else
      if v3 = (-1) then
        Ps_mark_b26 v1 v2 v3 σ
      else
        if (Ps_isNumber v3) = 0 then
          Ps_mark_b30 v1 v2 v3 σ
        else
          Ps_mark_b26 v1 v2 v3 σ

def Wo_setThing (v1 : Int32) (v2 : Int32) (v3 : Int32) (σ : Mem) : Option Mem :=
  if pmIn v1 4 = true then
  if pmIn v1 4 = true then
  some (mput (mput (mput σ 1 5 ((σ 1 5) + 1)) 11 v1.toNatClampNeg v2) 12 v1.toNatClampNeg v3)
  else none
  else none

def Ps_thing_b26 (v1 : Int32) (v2 : Int32) (v3 : Int32) (s0 : Int32) (σ : Mem) : Option (Int32 × Mem) :=
  if s0 = 0 then
    if (s0 == 0 || s0 == 1) = true then some (s0, σ) else none
  else
    (Wo_setThing v1 v2 v3 σ).bind fun q40 =>
    if (s0 == 0 || s0 == 1) = true then some (s0, q40) else none

def Ps_thing_b25 (v1 : Int32) (v2 : Int32) (v3 : Int32) (σ : Mem) : Option (Int32 × Mem) :=
  Ps_thing_b26 v1 v2 v3 0 σ

def Ps_thing (v1 : Int32) (v2 : Int32) (v3 : Int32) (σ : Mem) : Option (Int32 × Mem) :=
  if (Ps_isOne v1) = 0 then
    Ps_thing_b25 v1 v2 v3 σ
  else
    if (Ps_isNumber v2) = 0 then
      Ps_thing_b25 v1 v2 v3 σ
    else
      if (Ps_isOne v3) = 0 then
        Ps_thing_b25 v1 v2 v3 σ
      else
        Ps_thing_b26 v1 v2 v3 1 σ

def Ne_holdersOf (v0 : Nat) (v1 : Int32) (σ : Mem) : Option Int32 :=
  if pmIn v1 4 = true then
  some (σ (v0 + 3) v1.toNatClampNeg)
  else none

def Wo_foldersOf (v1 : Int32) (σ : Mem) : Option Int32 :=
  (Ne_holdersOf 6 v1 σ).bind fun q5 =>
  some q5

def Wo_groupsOf (v1 : Int32) (σ : Mem) : Option Int32 :=
  (Ne_holdersOf 2 v1 σ).bind fun q5 =>
  some q5

def Ps_isIn (v1 : Int32) (v2 : Int32) (v3 : Int32) (σ : Mem) : Option Int32 :=
  if (Ps_isOne v2) = 0 then
    some 0
  else
    if ¬ (Ps_isOne v3) = 0 then
      if ¬ v1 = 0 then
        if ¬ v1 = 2 then
          some 0
        else
          (Wo_foldersOf v2 σ).bind fun q43 =>
          if (Ps_hasBit q43 v3) = 0 then
            some 0
          else
            some 1
      else
        (Wo_groupsOf v2 σ).bind fun q25 =>
        if ((Ps_hasBit q25 v3) == 0 || (Ps_hasBit q25 v3) == 1) = true then some (Ps_hasBit q25 v3) else none
    else
      some 0

def Re_append_b17  : Nat → Int64 → Int32 → Int32 → Mem → Option (Int32 × Mem)
  | 0, _, _, _, _ => none
  | n + 1, v1, v3, v4, σ =>
    if v3 ≤ v4 then
      some (1, (mput σ 15 1 ((σ 15 1) + v3)))
    else
      if pmIn ((σ 15 1) + v4) 160 = true then
      (Re_append_b17 n) v1 v3 (v4 + 1) (mput σ 16 ((σ 15 1) + v4).toNatClampNeg ((v1 >>> ((8 * v4).toInt64 &&& 63)).toInt32 &&& 255))
      else none

def Re_append (v1 : Int64) (v3 : Int32) (σ : Mem) : Option (Int32 × Mem) :=
  if ((σ 15 1) + v3) ≤ 160 then
    Re_append_b17 FU v1 v3 0 σ
  else
    some (0, σ)

def Re_length (σ : Mem) : Option Int32 :=
  some (σ 15 1)

def Ps_put (v1 : Int64) (v3 : Int32) (σ : Mem) : Option (Int32 × Mem) :=
  if v3 < 1 then
    some ((-2), σ)
  else
    if v3 ≤ 8 then
      (Re_append v1 v3 σ).bind fun q20 =>
      if q20.1 = 0 then
        some ((-3), q20.2)
      else
        (Re_length q20.2).bind fun q30 =>
        some (q30, q20.2)
    else
      some ((-2), σ)

def Re_clear (σ : Mem) : Option (Int32 × Mem) :=
  some ((σ 15 1), (mput σ 15 1 0))

def Ps_wipe (σ : Mem) : Option (Int32 × Mem) :=
  (Re_clear σ).bind fun q4 =>
  some (q4.1, q4.2)

def Ps_chosen (v1 : Int32) (σ : Mem) : Option Nat :=
  if ¬ v1 = 0 then
    some 64
  else
    some 17

def Ps_isSet (v0 : Int32) : Int32 :=
  if v0 < 0 then
    0
  else
    if 2 ≤ v0 then
      0
    else
      1

def Se_count (v0 : Nat) (σ : Mem) : Option Int32 :=
  some (σ v0 1)

def Se_keepSpare (v0 : Nat) (σ : Mem) : Option (Int32 × Mem) :=
  some ((((mput σ v0 1 ((σ v0 1) + 1)) v0 1) - 1), (mput σ v0 1 ((σ v0 1) + 1)))

def Se_spare (v0 : Nat) (σ : Mem) : Option Nat :=
  if pmIn (σ v0 1) 9 = true then
  if isPo (ix (σ (v0 + 1) (σ v0 1).toNatClampNeg)) then
  some (ix (σ (v0 + 1) (σ v0 1).toNatClampNeg))
  else none
  else none

def Po_begin (v0 : Nat) (σ : Mem) : Option Mem :=
  some (mput (mput (mput (mput σ v0 9 0) v0 1 1) v0 3 0) v0 12 (-1))

def Po_bitsOf (v0 : Int32) : Int32 :=
  if v0 = 98 then
    2
  else
  if v0 = 99 then
    1
  else
  if v0 = 110 then
    28
  else
    0

def Po_append (v0 : Nat) (v1 : Int32) (v2 : Int32) (σ : Mem) : Option Mem :=
  if 160 ≤ (σ v0 9) then
    some σ
  else
    if pmIn (σ v0 9) 160 = true then
    if pmIn ((mput σ (v0 + 1) (σ v0 9).toNatClampNeg v1) v0 9) 160 = true then
    some (mput (mput (mput (mput σ (v0 + 1) (σ v0 9).toNatClampNeg v1) (v0 + 2) ((mput σ (v0 + 1) (σ v0 9).toNatClampNeg v1) v0 9).toNatClampNeg v2) v0 9 (((mput (mput σ (v0 + 1) (σ v0 9).toNatClampNeg v1) (v0 + 2) ((mput σ (v0 + 1) (σ v0 9).toNatClampNeg v1) v0 9).toNatClampNeg v2) v0 9) + 1)) v0 3 (((mput (mput (mput σ (v0 + 1) (σ v0 9).toNatClampNeg v1) (v0 + 2) ((mput σ (v0 + 1) (σ v0 9).toNatClampNeg v1) v0 9).toNatClampNeg v2) v0 9 (((mput (mput σ (v0 + 1) (σ v0 9).toNatClampNeg v1) (v0 + 2) ((mput σ (v0 + 1) (σ v0 9).toNatClampNeg v1) v0 9).toNatClampNeg v2) v0 9) + 1)) v0 3) ||| (Po_bitsOf v1)))
    else none
    else none

def Po_landHere (v0 : Nat) (v1 : Int32) (σ : Mem) : Option Mem :=
  if v1 < 0 then
    some σ
  else
    if (σ v0 9) ≤ v1 then
      some σ
    else
      if pmIn v1 160 = true then
      some (mput σ (v0 + 2) v1.toNatClampNeg (σ v0 9))
      else none

def Re_next (σ : Mem) : Option Int32 :=
  if ¬ (σ 15 4) = 0 then
    some (-1)
  else
    if (σ 15 1) ≤ (σ 15 3) then
      some (-1)
    else
      if pmIn (σ 15 3) 160 = true then
      some (σ 16 (σ 15 3).toNatClampNeg)
      else none

def Re_refuseByte (σ : Mem) : Option Mem :=
  if ¬ (σ 15 4) = 0 then
    some σ
  else
    some (mput σ 15 4 ((-10) - (σ 15 3)))

def Re_take (v1 : Int32) (σ : Mem) : Option Mem :=
  (Re_next σ).bind fun q1 =>
  if ¬ q1 = v1 then
    (Re_refuseByte σ).bind fun q22 =>
    some q22
  else
    some (mput σ 15 3 ((σ 15 3) + 1))

def Re_branchAt (v1 : Int32) (v2 : Int32) (σ : Mem) : Option (Int32 × Mem) :=
  (Re_take v1 σ).bind fun q2 =>
  if isPo (ix (q2 15 2)) then
  (Po_append (ix (q2 15 2)) v2 0 q2).bind fun q11 =>
  if isPo (ix (q11 15 2)) then
  some (((q11 (ix (q11 15 2)) 9) - 1), q11)
  else none
  else none

def Re_branch (v1 : Int32) (σ : Mem) : Option (Int32 × Mem) :=
  (Re_branchAt v1 v1 σ).bind fun q3 =>
  some (q3.1, q3.2)

def Re_lookAt (v1 : Int32) (v2 : Int32) (v3 : Int32) (σ : Mem) : Option Mem :=
  if v1 = v2 then
    some σ
  else
    if ¬ (σ 15 4) = 0 then
      some σ
    else
      some (mput σ 15 4 ((-1000) - v3))

def Re_lookAtEnded (v1 : Int32) (v2 : Int32) (v3 : Int32) (σ : Mem) : Option Mem :=
  if (σ 15 1) ≤ (σ 15 3) then
    some σ
  else
    (Re_lookAt v1 v2 v3 σ).bind fun q15 =>
    some q15

def Re_constantOf (v0 : Int32) : Int32 :=
  if ¬ v0 = 84 then
    if v0 < 48 then
      0
    else
      if 57 < v0 then
        0
      else
        (v0 - 48)
  else
    1

def Re_digit (σ : Mem) : Option (Int32 × Mem) :=
  (Re_next σ).bind fun q1 =>
  if ¬ (Ps_isOne (q1 - 48)) = 0 then
    some ((q1 - 48), (mput σ 15 3 ((σ 15 3) + 1)))
  else
    (Re_refuseByte σ).bind fun q16 =>
    some (0, q16)

def Re_isNumbered (v0 : Int32) : Int32 :=
  if v0 = 103 then
    1
  else
    if v0 = 102 then
      1
    else
      if v0 = 104 then
        1
      else
        if ¬ v0 = 109 then
          0
        else
          1

def Re_typeOf (v0 : Int32) : Int32 :=
  if v0 = 70 ∨ v0 = 84 ∨ v0 = 98 ∨ v0 = 99 ∨ v0 = 102 ∨ v0 = 103 ∨ v0 = 104 ∨ v0 = 111 then
    1
  else
  if v0 = 108 ∨ v0 = 109 ∨ v0 = 110 then
    0
  else
    if v0 < 48 then
      (-1)
    else
      if 57 < v0 then
        (-1)
      else
        0

def Re_atom_b29 (σ : Mem) : Option (Int32 × Mem) :=
  (Re_refuseByte σ).bind fun q30 =>
  some (0, q30)

def Re_atom_b99 (v1 : Int32) (v2 : Int32) (v3 : Int32) (v4 : Int32) (σ : Mem) : Option (Int32 × Mem) :=
  if ¬ v2 = 109 then
    some (v3, σ)
  else
    if ¬ (Ps_hasBit v1 v4) = 0 then
      some (v3, σ)
    else
      if isPo (ix (σ 15 2)) then
      some (v3, (mput σ (ix (σ 15 2)) 1 0))
      else none

def Re_atom_b73 (v1 : Int32) (v2 : Int32) (v3 : Int32) (s0 : Int32) (σ : Mem) : Option (Int32 × Mem) :=
  if isPo (ix (σ 15 2)) then
  (Po_append (ix (σ 15 2)) v2 s0 σ).bind fun q82 =>
  if ¬ v2 = 104 then
    Re_atom_b99 v1 v2 v3 s0 q82
  else
    Re_atom_b99 v1 v2 v3 s0 (mput q82 15 6 (1 <<< (s0 &&& 31)))
  else none

def Re_atom (v1 : Int32) (σ : Mem) : Option (Int32 × Mem) :=
  (Re_next σ).bind fun q1 =>
  if (Re_typeOf q1) = (-1) then
    Re_atom_b29 (mput σ 15 6 0)
  else
    if ¬ ((mput σ 15 6 0) 15 5) = 12 then
      if (Re_isNumbered q1) = 0 then
        Re_atom_b73 v1 q1 (Re_typeOf q1) (Re_constantOf q1) (mput (mput (mput σ 15 6 0) 15 3 (((mput σ 15 6 0) 15 3) + 1)) 15 5 (((mput (mput σ 15 6 0) 15 3 (((mput σ 15 6 0) 15 3) + 1)) 15 5) + 1))
      else
        (Re_digit (mput (mput (mput σ 15 6 0) 15 3 (((mput σ 15 6 0) 15 3) + 1)) 15 5 (((mput (mput σ 15 6 0) 15 3 (((mput σ 15 6 0) 15 3) + 1)) 15 5) + 1))).bind fun q63 =>
        Re_atom_b73 v1 q1 (Re_typeOf q1) q63.1 q63.2
    else
      Re_atom_b29 (mput σ 15 6 0)

def Re_bracketed (rc : Nat → Int32 → Int32 → Mem → Option (Int32 × Mem)) (v1 : Int32) (v2 : Int32) (σ : Mem) : Option (Int32 × Mem) :=
  (rc 0 v1 v2 σ).bind fun q3 =>
  (Re_take 41 q3.2).bind fun q10 =>
  some (q3.1, q10)

def Re_choice (rc : Nat → Int32 → Int32 → Mem → Option (Int32 × Mem)) (v1 : Int32) (v2 : Int32) (σ : Mem) : Option (Int32 × Mem) :=
  (rc 0 v1 v2 σ).bind fun q8 =>
  (Re_lookAtEnded q8.1 1 (σ 15 3) q8.2).bind fun q18 =>
  (Re_branchAt 58 91 q18).bind fun q32 =>
  (rc 0 v1 (v2 ||| (q18 15 6)) q32.2).bind fun q43 =>
  (Re_branchAt 58 58 q43.2).bind fun q62 =>
  if isPo (ix (q62.2 15 2)) then
  (Po_landHere (ix (q62.2 15 2)) q32.1 q62.2).bind fun q73 =>
  (rc 0 v1 v2 q73).bind fun q85 =>
  (Re_lookAtEnded q85.1 q43.1 (q73 15 3) q85.2).bind fun q97 =>
  (Re_take 93 q97).bind fun q103 =>
  if isPo (ix (q103 15 2)) then
  (Po_landHere (ix (q103 15 2)) q62.1 q103).bind fun q112 =>
  some (q43.1, (mput q112 15 6 (((q18 15 6) ||| (q43.2 15 6)) &&& (q112 15 6))))
  else none
  else none

def Re_not (rc : Nat → Int32 → Int32 → Mem → Option (Int32 × Mem)) (v1 : Int32) (v2 : Int32) (σ : Mem) : Option (Int32 × Mem) :=
  (rc 4 v1 v2 σ).bind fun q8 =>
  (Re_lookAt q8.1 1 (σ 15 3) q8.2).bind fun q18 =>
  if isPo (ix (q18 15 2)) then
  (Po_append (ix (q18 15 2)) 33 0 q18).bind fun q28 =>
  some (1, (mput q28 15 6 0))
  else none

def Re_term_b29 (rc : Nat → Int32 → Int32 → Mem → Option (Int32 × Mem)) (v1 : Int32) (v2 : Int32) (v3 : Int32) (σ : Mem) : Option (Int32 × Mem) :=
  if ¬ v1 = 6 then
    (Re_take v3 σ).bind fun q43 =>
    if v3 = 33 then
      (rc 5 (v1 + 1) v2 q43).bind fun q77 =>
      some (q77.1, q77.2)
    else
    if v3 = 40 then
      (rc 6 (v1 + 1) v2 q43).bind fun q86 =>
      some (q86.1, q86.2)
    else
      (rc 7 (v1 + 1) v2 q43).bind fun q95 =>
      some (q95.1, q95.2)
  else
    (Re_refuseByte σ).bind fun q36 =>
    some (1, q36)

def Re_term (rc : Nat → Int32 → Int32 → Mem → Option (Int32 × Mem)) (v1 : Int32) (v2 : Int32) (σ : Mem) : Option (Int32 × Mem) :=
  (Re_next σ).bind fun q1 =>
  if q1 = 33 then
    Re_term_b29 rc v1 v2 q1 σ
  else
    if q1 = 40 then
      Re_term_b29 rc v1 v2 q1 σ
    else
      if q1 = 91 then
        Re_term_b29 rc v1 v2 q1 σ
      else
        (Re_atom v2 σ).bind fun q25 =>
        some (q25.1, q25.2)

def Re_sum_b42 (rc : Nat → Int32 → Int32 → Mem → Option (Int32 × Mem)) (k16 : Int32 → Int32 → Int32 → Int32 → Int32 → Mem → Option (Int32 × Mem)) (v1 : Int32) (v2 : Int32) (v3 : Int32) (v4 : Int32) (v5 : Int32) (σ : Mem) : Option (Int32 × Mem) :=
  (Re_next σ).bind fun q43 =>
  (Re_lookAt v4 0 v3 σ).bind fun q53 =>
  (Re_take q43 q53).bind fun q59 =>
  (rc 4 v1 v2 q59).bind fun q71 =>
  (Re_lookAt q71.1 0 (q59 15 3) q71.2).bind fun q82 =>
  if isPo (ix (q82 15 2)) then
  (Po_append (ix (q82 15 2)) q43 0 q82).bind fun q92 =>
  k16 v1 v2 v3 q71.1 (v5 + 1) (mput q92 15 6 0)
  else none

def Re_sum_b16 (rc : Nat → Int32 → Int32 → Mem → Option (Int32 × Mem)) : Nat → Int32 → Int32 → Int32 → Int32 → Int32 → Mem → Option (Int32 × Mem)
  | 0, _, _, _, _, _, _ => none
  | n + 1, v1, v2, v3, v4, v5, σ =>
    if 160 ≤ v5 then
      some (v4, σ)
    else
      (Re_next σ).bind fun q25 =>
      if q25 = 43 then
        Re_sum_b42 rc (Re_sum_b16 rc n) v1 v2 v3 v4 v5 σ
      else
        (Re_next σ).bind fun q34 =>
        if ¬ q34 = 45 then
          some (v4, σ)
        else
          Re_sum_b42 rc (Re_sum_b16 rc n) v1 v2 v3 v4 v5 σ

def Re_sum (rc : Nat → Int32 → Int32 → Mem → Option (Int32 × Mem)) (v1 : Int32) (v2 : Int32) (σ : Mem) : Option (Int32 × Mem) :=
  (rc 4 v1 v2 σ).bind fun q8 =>
  Re_sum_b16 rc FU v1 v2 (σ 15 3) q8.1 0 q8.2

def Re_comparison_b58 (rc : Nat → Int32 → Int32 → Mem → Option (Int32 × Mem)) (v1 : Int32) (v2 : Int32) (v4 : Int32) (v5 : Int32) (σ : Mem) : Option (Int32 × Mem) :=
  (Re_take v5 σ).bind fun q61 =>
  (rc 3 v1 v2 q61).bind fun q73 =>
  (Re_lookAtEnded q73.1 v4 (q61 15 3) q73.2).bind fun q85 =>
  if isPo (ix (q85 15 2)) then
  (Po_append (ix (q85 15 2)) v5 0 q85).bind fun q95 =>
  some (1, (mput q95 15 6 0))
  else none

def Re_comparison_b43 (rc : Nat → Int32 → Int32 → Mem → Option (Int32 × Mem)) (v1 : Int32) (v2 : Int32) (v3 : Int32) (v4 : Int32) (v5 : Int32) (σ : Mem) : Option (Int32 × Mem) :=
  if ¬ v5 = 60 then
    Re_comparison_b58 rc v1 v2 v4 v5 σ
  else
    (Re_lookAt v4 0 v3 σ).bind fun q55 =>
    Re_comparison_b58 rc v1 v2 v4 v5 q55

def Re_comparison (rc : Nat → Int32 → Int32 → Mem → Option (Int32 × Mem)) (v1 : Int32) (v2 : Int32) (σ : Mem) : Option (Int32 × Mem) :=
  (rc 3 v1 v2 σ).bind fun q8 =>
  (Re_next q8.2).bind fun q14 =>
  if q14 = 60 then
    Re_comparison_b43 rc v1 v2 (σ 15 3) q8.1 q14 q8.2
  else
    if q14 = 61 then
      Re_comparison_b43 rc v1 v2 (σ 15 3) q8.1 q14 q8.2
    else
      if q14 = 35 then
        Re_comparison_b43 rc v1 v2 (σ 15 3) q8.1 q14 q8.2
      else
        some (q8.1, q8.2)

def Re_ands_b105 (rc : Nat → Int32 → Int32 → Mem → Option (Int32 × Mem)) (v4 : Int32) (v5 : Int32) (σ : Mem) : Option (Int32 × Mem) :=
  some (v4, (mput σ 15 6 v5))

def Re_ands_b22 (rc : Nat → Int32 → Int32 → Mem → Option (Int32 × Mem)) : Nat → Int32 → Int32 → Int32 → Int32 → Int32 → Int32 → Mem → Option (Int32 × Mem)
  | 0, _, _, _, _, _, _, _ => none
  | n + 1, v1, v2, v3, v4, v5, v6, σ =>
    if 160 ≤ v6 then
      Re_ands_b105 rc v4 v5 σ
    else
      (Re_next σ).bind fun q31 =>
      if ¬ q31 = 38 then
        Re_ands_b105 rc v4 v5 σ
      else
        (Re_lookAt v4 1 v3 σ).bind fun q44 =>
        (Re_branch 38 q44).bind fun q50 =>
        (rc 2 v1 (v2 ||| v5) q50.2).bind fun q67 =>
        (Re_lookAtEnded q67.1 1 (q50.2 15 3) q67.2).bind fun q78 =>
        if isPo (ix (q78 15 2)) then
        (Po_landHere (ix (q78 15 2)) q50.1 q78).bind fun q96 =>
        (Re_ands_b22 rc n) v1 v2 v3 q67.1 (v5 ||| (q78 15 6)) (v6 + 1) q96
        else none

def Re_ands (rc : Nat → Int32 → Int32 → Mem → Option (Int32 × Mem)) (v1 : Int32) (v2 : Int32) (σ : Mem) : Option (Int32 × Mem) :=
  (rc 2 v1 v2 σ).bind fun q8 =>
  Re_ands_b22 rc FU v1 v2 (σ 15 3) q8.1 (q8.2 15 6) 0 q8.2

def Re_alternatives_b102 (rc : Nat → Int32 → Int32 → Mem → Option (Int32 × Mem)) (v4 : Int32) (v5 : Int32) (σ : Mem) : Option (Int32 × Mem) :=
  some (v4, (mput σ 15 6 v5))

def Re_alternatives_b22 (rc : Nat → Int32 → Int32 → Mem → Option (Int32 × Mem)) : Nat → Int32 → Int32 → Int32 → Int32 → Int32 → Int32 → Mem → Option (Int32 × Mem)
  | 0, _, _, _, _, _, _, _ => none
  | n + 1, v1, v2, v3, v4, v5, v6, σ =>
    if 160 ≤ v6 then
      Re_alternatives_b102 rc v4 v5 σ
    else
      (Re_next σ).bind fun q31 =>
      if ¬ q31 = 124 then
        Re_alternatives_b102 rc v4 v5 σ
      else
        (Re_lookAt v4 1 v3 σ).bind fun q44 =>
        (Re_branch 124 q44).bind fun q50 =>
        (rc 1 v1 v2 q50.2).bind fun q64 =>
        (Re_lookAtEnded q64.1 1 (q50.2 15 3) q64.2).bind fun q75 =>
        if isPo (ix (q75 15 2)) then
        (Po_landHere (ix (q75 15 2)) q50.1 q75).bind fun q93 =>
        (Re_alternatives_b22 rc n) v1 v2 v3 q64.1 (v5 &&& (q75 15 6)) (v6 + 1) q93
        else none

def Re_alternatives (rc : Nat → Int32 → Int32 → Mem → Option (Int32 × Mem)) (v1 : Int32) (v2 : Int32) (σ : Mem) : Option (Int32 × Mem) :=
  (rc 1 v1 v2 σ).bind fun q8 =>
  Re_alternatives_b22 rc FU v1 v2 (σ 15 3) q8.1 (q8.2 15 6) 0 q8.2

def Re_rc : Nat → Nat → Int32 → Int32 → Mem → Option (Int32 × Mem)
  | 0, _, _, _, _ => none
  | n + 1, s, a, b, σ => match s with
    | 0 => Re_alternatives (Re_rc n) a b σ
    | 1 => Re_ands (Re_rc n) a b σ
    | 2 => Re_comparison (Re_rc n) a b σ
    | 3 => Re_sum (Re_rc n) a b σ
    | 4 => Re_term (Re_rc n) a b σ
    | 5 => Re_not (Re_rc n) a b σ
    | 6 => Re_bracketed (Re_rc n) a b σ
    | 7 => Re_choice (Re_rc n) a b σ
    | _ => none

def Re_conditions_b113 (k4 : Int32 → Int32 → Mem → Option Mem) (v1 : Int32) (v2 : Int32) (σ : Mem) : Option Mem :=
  if isPo (ix (σ 15 2)) then
  (Po_append (ix (σ 15 2)) 63 0 σ).bind fun q120 =>
  k4 v1 (v2 + 1) q120
  else none

def Re_conditions_b43 (k4 : Int32 → Int32 → Mem → Option Mem) (v1 : Int32) (v2 : Int32) (s0 : Int32) (σ : Mem) : Option Mem :=
  (Re_take 123 (mput σ 15 3 ((σ 15 3) + 1))).bind fun q57 =>
  (Re_rc 64 0 0 v1 q57).bind fun q69 =>
  (Re_lookAtEnded q69.1 1 (q57 15 3) q69.2).bind fun q80 =>
  (Re_take 125 q80).bind fun q86 =>
  if s0 = 0 then
    Re_conditions_b113 k4 (v1 ||| (q86 15 6)) v2 q86
  else
    if isPo (ix (q86 15 2)) then
    (Po_append (ix (q86 15 2)) 33 0 q86).bind fun q100 =>
    Re_conditions_b113 k4 v1 v2 q100
    else none

def Re_conditions_b29 (k4 : Int32 → Int32 → Mem → Option Mem) (v1 : Int32) (v2 : Int32) (σ : Mem) : Option Mem :=
  (Re_next σ).bind fun q30 =>
  if ¬ q30 = 33 then
    Re_conditions_b43 k4 v1 v2 0 σ
  else
    Re_conditions_b43 k4 v1 v2 1 σ

def Re_conditions_b4  : Nat → Int32 → Int32 → Mem → Option Mem
  | 0, _, _, _ => none
  | n + 1, v1, v2, σ =>
    if 160 ≤ v2 then
      some σ
    else
      (Re_next σ).bind fun q12 =>
      if q12 = 63 then
        Re_conditions_b29 (Re_conditions_b4 n) v1 v2 σ
      else
        (Re_next σ).bind fun q21 =>
        if ¬ q21 = 33 then
          some σ
        else
          Re_conditions_b29 (Re_conditions_b4 n) v1 v2 σ

def Re_conditions (σ : Mem) : Option Mem :=
  Re_conditions_b4 FU 0 0 σ

def Re_scope_b43 (σ : Mem) : Option (Int32 × Mem) :=
  (Re_digit σ).bind fun q44 =>
  some (q44.1, q44.2)

def Re_scope (v1 : Int32) (σ : Mem) : Option (Int32 × Mem) :=
  (Re_next σ).bind fun q1 =>
  if ¬ q1 = 42 then
    if v1 = 0 then
      Re_scope_b43 σ
    else
      (Re_next σ).bind fun q22 =>
      if ¬ q22 = 64 then
        Re_scope_b43 σ
      else
        (Re_take 64 σ).bind fun q33 =>
        (Re_digit q33).bind fun q38 =>
        some ((4 + q38.1), q38.2)
  else
    (Re_take 42 σ).bind fun q12 =>
    some ((-1), q12)

def Re_read_b133 (σ : Mem) : Option (Int32 × Mem) :=
  if isPo (ix (σ 15 2)) then
  some (((mput σ (ix (σ 15 2)) 2 (σ 15 5)) 15 4), (mput σ (ix (σ 15 2)) 2 (σ 15 5)))
  else none

def Re_read_b72 (σ : Mem) : Option (Int32 × Mem) :=
  if isPo (ix (σ 15 2)) then
  (Re_scope 1 σ).bind fun q78 =>
  if isPo (ix ((mput q78.2 (ix (σ 15 2)) 4 q78.1) 15 2)) then
  (Re_scope 0 (mput q78.2 (ix (σ 15 2)) 4 q78.1)).bind fun q90 =>
  if isPo (ix ((mput q90.2 (ix ((mput q78.2 (ix (σ 15 2)) 4 q78.1) 15 2)) 5 q90.1) 15 2)) then
  (Re_scope 1 (mput q90.2 (ix ((mput q78.2 (ix (σ 15 2)) 4 q78.1) 15 2)) 5 q90.1)).bind fun q102 =>
  (Re_conditions (mput q102.2 (ix ((mput q90.2 (ix ((mput q78.2 (ix (σ 15 2)) 4 q78.1) 15 2)) 5 q90.1) 15 2)) 6 q102.1)).bind fun q109 =>
  (Re_take 59 q109).bind fun q115 =>
  if (q115 15 1) ≤ (q115 15 3) then
    Re_read_b133 q115
  else
    (Re_refuseByte q115).bind fun q130 =>
    Re_read_b133 q130
  else none
  else none
  else none

def Re_read_b45 (s0 : Nat) (s1 : Int32) (σ : Mem) : Option (Int32 × Mem) :=
  if (s1 == 0 || s1 == 1) = true then
  (Re_next (mput σ s0 0 s1)).bind fun q49 =>
  if ¬ q49 = 45 then
    (Re_take 43 (mput σ s0 0 s1)).bind fun q69 =>
    Re_read_b72 q69
  else
    (Re_take 45 (mput σ s0 0 s1)).bind fun q60 =>
    Re_read_b72 q60
  else none

def Re_read (v1 : Nat) (σ : Mem) : Option (Int32 × Mem) :=
  if isPo (ix ((mput σ 15 2 (nI v1)) 15 2)) then
  (Po_begin (ix ((mput σ 15 2 (nI v1)) 15 2)) (mput σ 15 2 (nI v1))).bind fun q9 =>
  if isPo (ix ((mput (mput (mput q9 15 3 0) 15 4 0) 15 5 0) 15 2)) then
  (Re_next (mput (mput (mput q9 15 3 0) 15 4 0) 15 5 0)).bind fun q32 =>
  if ¬ q32 = 43 then
    Re_read_b45 (ix ((mput (mput (mput q9 15 3 0) 15 4 0) 15 5 0) 15 2)) 0 (mput (mput (mput q9 15 3 0) 15 4 0) 15 5 0)
  else
    Re_read_b45 (ix ((mput (mput (mput q9 15 3 0) 15 4 0) 15 5 0) 15 2)) 1 (mput (mput (mput q9 15 3 0) 15 4 0) 15 5 0)
  else none
  else none

def Ps_add (v1 : Int32) (σ : Mem) : Option (Int32 × Mem) :=
  if ¬ (Ps_isSet v1) = 0 then
    (Ps_chosen v1 σ).bind fun q12 =>
    (Se_spare q12 σ).bind fun q21 =>
    (Re_read q21 σ).bind fun q24 =>
    if q24.1 = 0 then
      (Se_count q12 q24.2).bind fun q35 =>
      if ¬ q35 = 8 then
        (Se_keepSpare q12 q24.2).bind fun q49 =>
        some (q49.1, q49.2)
      else
        some ((-3), q24.2)
    else
      some (q24.1, q24.2)
  else
    some ((-2), σ)

def Ps_isPolicy (v1 : Int32) (v2 : Int32) (σ : Mem) : Option Int32 :=
  if (Ps_isSet v1) = 0 then
    some 0
  else
    if v2 < 0 then
      some 0
    else
      (Ps_chosen v1 σ).bind fun q14 =>
      (Se_count q14 σ).bind fun q17 =>
      if q17 ≤ v2 then
        some 0
      else
        some 1

def Se_remove_b19  : Nat → Nat → Nat → Int32 → Mem → Option (Int32 × Mem)
  | 0, _, _, _, _ => none
  | n + 1, v0, v2, v3, σ =>
    if (σ v0 1) ≤ v3 then
      if pmIn (σ v0 1) 9 = true then
      some (((mput σ (v0 + 1) (σ v0 1).toNatClampNeg (nI v2)) v0 1), (mput σ (v0 + 1) (σ v0 1).toNatClampNeg (nI v2)))
      else none
    else
      if pmIn (v3 + 1) 9 = true then
      if isPo (ix (σ (v0 + 1) (v3 + 1).toNatClampNeg)) then
      if pmIn v3 9 = true then
      (Se_remove_b19 n) v0 v2 (v3 + 1) (mput σ (v0 + 1) v3.toNatClampNeg (nI (ix (σ (v0 + 1) (v3 + 1).toNatClampNeg))))
      else none
      else none
      else none

def Se_remove (v0 : Nat) (v1 : Int32) (σ : Mem) : Option (Int32 × Mem) :=
  if pmIn v1 9 = true then
  if isPo (ix (σ (v0 + 1) v1.toNatClampNeg)) then
  Se_remove_b19 FU v0 (ix (σ (v0 + 1) v1.toNatClampNeg)) v1 (mput σ v0 1 ((σ v0 1) - 1))
  else none
  else none

def Ps_drop (v1 : Int32) (v2 : Int32) (σ : Mem) : Option (Int32 × Mem) :=
  (Ps_isPolicy v1 v2 σ).bind fun q3 =>
  if q3 = 0 then
    some ((-2), σ)
  else
    (Ps_chosen v1 σ).bind fun q11 =>
    (Se_remove q11 v2 σ).bind fun q15 =>
    some (q15.1, q15.2)

def Ps_size (v1 : Int32) (σ : Mem) : Option Int32 :=
  if (Ps_isSet v1) = 0 then
    some (-1)
  else
    (Ps_chosen v1 σ).bind fun q9 =>
    (Se_count q9 σ).bind fun q12 =>
    some q12

def Ps_countBits_b4  : Nat → Nat → Int32 → Int32 → Mem → Option Int32
  | 0, _, _, _, _ => none
  | n + 1, v0, v1, v2, σ =>
    if 64 ≤ v2 then
      some v1
    else
      if pmIn v2 64 = true then
      (Ps_countBits_b4 n) v0 (v1 + (bitc (σ v0 v2.toNatClampNeg))) (v2 + 1) σ
      else none

def Ps_countBits (v0 : Nat) (σ : Mem) : Option Int32 :=
  Ps_countBits_b4 FU v0 0 0 σ

def Ju_isInScope (v0 : Int32) (v1 : Int32) (v2 : Int32) : Int32 :=
  if v0 < 4 then
    if v0 = (-1) then
      1
    else
      if ¬ v0 = v1 then
        0
      else
        1
  else
    (Ps_hasBit v2 (v0 - 4))

def Ju_covers (v1 : Nat) (v2 : Int32) (v3 : Int32) (σ : Mem) : Option Int32 :=
  (Wo_groupsOf v2 σ).bind fun q10 =>
  if (Ju_isInScope (σ v1 4) v2 q10) = 0 then
    some 0
  else
    (Wo_foldersOf v3 σ).bind fun q29 =>
    if (Ju_isInScope (σ v1 6) v3 q29) = 0 then
      some 0
    else
      some 1

def Ju_pull_b17 (σ : Mem) : Option (Int32 × Mem) :=
  if pmIn (σ 13 2) 12 = true then
  some ((σ 14 (σ 13 2).toNatClampNeg), σ)
  else none

def Ju_pull (σ : Mem) : Option (Int32 × Mem) :=
  if (σ 13 2) ≤ 0 then
    Ju_pull_b17 σ
  else
    Ju_pull_b17 (mput σ 13 2 ((σ 13 2) - 1))

def Ju_push (v1 : Int32) (σ : Mem) : Option Mem :=
  if 12 ≤ (σ 13 2) then
    some σ
  else
    if pmIn (σ 13 2) 12 = true then
    some (mput (mput σ 14 (σ 13 2).toNatClampNeg v1) 13 2 (((mput σ 14 (σ 13 2).toNatClampNeg v1) 13 2) + 1))
    else none

def Ju_branch_b56 (v1 : Int32) (v3 : Int32) (v4 : Int32) (σ : Mem) : Option Mem :=
  if v4 = 0 then
    some σ
  else
    if v1 = 91 then
      some σ
    else
      (Ju_push v3 σ).bind fun q69 =>
      some q69

def Ju_branch_b44 (v1 : Int32) (v2 : Int32) (v3 : Int32) (s0 : Int32) (σ : Mem) : Option Mem :=
  if s0 = 0 then
    Ju_branch_b56 v1 v3 s0 σ
  else
    Ju_branch_b56 v1 v3 s0 (mput σ 13 3 v2)

def Ju_branch (v1 : Int32) (v2 : Int32) (σ : Mem) : Option Mem :=
  if ¬ v1 = 58 then
    (Ju_pull σ).bind fun q13 =>
    if ¬ v1 = 124 then
      if ¬ q13.1 = 0 then
        Ju_branch_b44 v1 v2 q13.1 0 q13.2
      else
        Ju_branch_b44 v1 v2 q13.1 1 q13.2
    else
      if q13.1 = 0 then
        Ju_branch_b44 v1 v2 q13.1 0 q13.2
      else
        Ju_branch_b44 v1 v2 q13.1 1 q13.2
  else
    some (mput σ 13 3 v2)

def Ju_reckon_b99 (s1 : Int32) (σ : Mem) : Option Mem :=
  (Ju_push s1 σ).bind fun q99 =>
  some q99

def Ju_reckon_b116 (s1 : Int32) (σ : Mem) : Option Mem :=
  (Ju_push s1 σ).bind fun q116 =>
  some q116

def Ju_reckon_b133 (s1 : Int32) (σ : Mem) : Option Mem :=
  (Ju_push s1 σ).bind fun q133 =>
  some q133

def Ju_reckon (v1 : Int32) (σ : Mem) : Option Mem :=
  (Ju_pull σ).bind fun q1 =>
  if ¬ v1 = 33 then
    (Ju_pull q1.2).bind fun q20 =>
    if v1 = 43 then
      (Ju_push (q20.1 + q1.1) q20.2).bind fun q72 =>
      some q72
    else
    if v1 = 45 then
      (Ju_push (q20.1 - q1.1) q20.2).bind fun q82 =>
      some q82
    else
    if v1 = 60 then
      if q1.1 ≤ q20.1 then
        Ju_reckon_b99 0 q20.2
      else
        Ju_reckon_b99 1 q20.2
    else
    if v1 = 61 then
      if ¬ q20.1 = q1.1 then
        Ju_reckon_b116 0 q20.2
      else
        Ju_reckon_b116 1 q20.2
    else
      if q20.1 = q1.1 then
        Ju_reckon_b133 0 q20.2
      else
        Ju_reckon_b133 1 q20.2
  else
    (Ju_push (1 - q1.1) q1.2).bind fun q15 =>
    some q15

def Ps_personOf (v0 : Int32) : Int32 :=
  (v0 >>> (9 &&& 31))

def Ps_thingOf (v0 : Int32) : Int32 :=
  ((v0 >>> (5 &&& 31)) &&& 3)

def Wo_valueOf (v1 : Int32) (v2 : Int32) (v3 : Int32) (σ : Mem) : Option Int32 :=
  if v1 = 98 then
    some ((v3 >>> (1 &&& 31)) &&& 1)
  else
  if v1 = 99 then
    some (v3 &&& 1)
  else
  if v1 = 102 then
    (Ne_holdersOf 6 (Ps_thingOf v3) σ).bind fun q121 =>
    some ((q121 >>> (v2 &&& 31)) &&& 1)
  else
  if v1 = 103 then
    (Ne_holdersOf 2 (Ps_personOf v3) σ).bind fun q107 =>
    some ((q107 >>> (v2 &&& 31)) &&& 1)
  else
  if v1 = 104 then
    if pmIn (((Ps_personOf v3) * 4) + v2) 16 = true then
    if ¬ (σ 10 (((Ps_personOf v3) * 4) + v2).toNatClampNeg) = (-1) then
      some 1
    else
      some 0
    else none
  else
  if v1 = 108 then
    if pmIn (Ps_thingOf v3) 4 = true then
    some (σ 11 (Ps_thingOf v3).toNatClampNeg)
    else none
  else
  if v1 = 109 then
    if pmIn (((Ps_personOf v3) * 4) + v2) 16 = true then
    some (σ 10 (((Ps_personOf v3) * 4) + v2).toNatClampNeg)
    else none
  else
  if v1 = 110 then
    some ((v3 >>> (2 &&& 31)) &&& 7)
  else
  if v1 = 111 then
    if pmIn (Ps_thingOf v3) 4 = true then
    if ¬ (σ 12 (Ps_thingOf v3).toNatClampNeg) = (Ps_personOf v3) then
      some 0
    else
      some 1
    else none
  else
    some v2

def Ju_conditions_b12  : Nat → Nat → Int32 → Int32 → Mem → Option (Int32 × Mem)
  | 0, _, _, _, _ => none
  | n + 1, v1, v2, v3, σ =>
    if (σ v1 9) ≤ v3 then
      some (1, σ)
    else
      if (σ 13 3) ≤ v3 then
        if pmIn v3 160 = true then
        if pmIn v3 160 = true then
        if (σ (v1 + 1) v3.toNatClampNeg) = 33 ∨ (σ (v1 + 1) v3.toNatClampNeg) = 35 ∨ (σ (v1 + 1) v3.toNatClampNeg) = 43 ∨ (σ (v1 + 1) v3.toNatClampNeg) = 45 ∨ (σ (v1 + 1) v3.toNatClampNeg) = 60 ∨ (σ (v1 + 1) v3.toNatClampNeg) = 61 then
          (Ju_reckon (σ (v1 + 1) v3.toNatClampNeg) σ).bind fun q162 =>
          (Ju_conditions_b12 n) v1 v2 (v3 + 1) q162
        else
        if (σ (v1 + 1) v3.toNatClampNeg) = 38 ∨ (σ (v1 + 1) v3.toNatClampNeg) = 58 ∨ (σ (v1 + 1) v3.toNatClampNeg) = 91 ∨ (σ (v1 + 1) v3.toNatClampNeg) = 124 then
          (Ju_branch (σ (v1 + 1) v3.toNatClampNeg) (σ (v1 + 2) v3.toNatClampNeg) σ).bind fun q153 =>
          (Ju_conditions_b12 n) v1 v2 (v3 + 1) q153
        else
        if (σ (v1 + 1) v3.toNatClampNeg) = 63 then
          (Ju_pull σ).bind fun q169 =>
          if ¬ q169.1 = 0 then
            (Ju_conditions_b12 n) v1 v2 (v3 + 1) q169.2
          else
            some (0, q169.2)
        else
          (Wo_valueOf (σ (v1 + 1) v3.toNatClampNeg) (σ (v1 + 2) v3.toNatClampNeg) v2 σ).bind fun q186 =>
          if ¬ q186 = (-1) then
            (Ju_push q186 σ).bind fun q202 =>
            (Ju_conditions_b12 n) v1 v2 (v3 + 1) q202
          else
            some (2, σ)
        else none
        else none
      else
        (Ju_conditions_b12 n) v1 v2 (v3 + 1) σ

def Ju_conditions (v1 : Nat) (v2 : Int32) (σ : Mem) : Option (Int32 × Mem) :=
  Ju_conditions_b12 FU v1 v2 0 (mput (mput σ 13 2 0) 13 3 0)

def Ju_surveyPair_b148  : Nat → Nat → Int32 → Int32 → Int32 → Int32 → Int32 → Mem → Option Mem
  | 0, _, _, _, _, _, _, _ => none
  | n + 1, v1, v2, v3, v4, v5, v6, σ =>
    if 4 ≤ v6 then
      some σ
    else
      if (Ju_isInScope (σ v1 5) v6 0) = 0 then
        (Ju_surveyPair_b148 n) v1 v2 v3 v4 v5 (v6 + 1) σ
      else
        if pmIn (((v2 * 16) + (v6 * 4)) + v3) 64 = true then
        if pmIn (((v2 * 16) + (v6 * 4)) + v3) 64 = true then
        (Ju_surveyPair_b148 n) v1 v2 v3 v4 v5 (v6 + 1) (mput (mput σ (v1 + 3) (((v2 * 16) + (v6 * 4)) + v3).toNatClampNeg v4) (v1 + 4) (((v2 * 16) + (v6 * 4)) + v3).toNatClampNeg v5)
        else none
        else none

def Ju_surveyPair_b113 (k9 : Nat → Int32 → Int32 → Int32 → Int32 → Int32 → Mem → Option Mem) (v1 : Nat) (v2 : Int32) (v3 : Int32) (v5 : Int32) (v6 : Int32) (v7 : Int32) (s0 : Int32) (s1 : Int32) (σ : Mem) : Option Mem :=
  if (Ps_hasBit v5 v7) = 0 then
    k9 v1 v2 v3 (s0 ||| s1) (v5 ||| 0) (v6 + 1) σ
  else
    k9 v1 v2 v3 (s0 ||| s1) (v5 ||| (1 <<< (v6 &&& 31))) (v6 + 1) σ

def Ju_surveyPair_b68 (k9 : Nat → Int32 → Int32 → Int32 → Int32 → Int32 → Mem → Option Mem) (v1 : Nat) (v2 : Int32) (v3 : Int32) (v5 : Int32) (v6 : Int32) (v8 : Int32) (s0 : Int32) (s1 : Int32) (σ : Mem) : Option Mem :=
  if ¬ v8 = 2 then
    k9 v1 v2 v3 (s0 ||| s1) (v5 ||| 0) (v6 + 1) σ
  else
    k9 v1 v2 v3 (s0 ||| s1) (v5 ||| (1 <<< (v6 &&& 31))) (v6 + 1) σ

def Ju_surveyPair_b9  : Nat → Nat → Int32 → Int32 → Int32 → Int32 → Int32 → Mem → Option Mem
  | 0, _, _, _, _, _, _, _ => none
  | n + 1, v1, v2, v3, v4, v5, v6, σ =>
    if 32 ≤ v6 then
      Ju_surveyPair_b148 FU v1 v2 v3 v4 v5 0 σ
    else
      if ¬ (v6 &&& (σ v1 3)) = v6 then
        if (Ps_hasBit v4 (v6 &&& (σ v1 3))) = 0 then
          Ju_surveyPair_b113 (Ju_surveyPair_b9 n) v1 v2 v3 v5 v6 (v6 &&& (σ v1 3)) v4 0 σ
        else
          Ju_surveyPair_b113 (Ju_surveyPair_b9 n) v1 v2 v3 v5 v6 (v6 &&& (σ v1 3)) v4 (1 <<< (v6 &&& 31)) σ
      else
        (Ju_conditions v1 (((v2 * 512) + (v3 * 32)) + v6) σ).bind fun q47 =>
        if ¬ q47.1 = 1 then
          Ju_surveyPair_b68 (Ju_surveyPair_b9 n) v1 v2 v3 v5 v6 q47.1 v4 0 q47.2
        else
          Ju_surveyPair_b68 (Ju_surveyPair_b9 n) v1 v2 v3 v5 v6 q47.1 v4 (1 <<< (v6 &&& 31)) q47.2

def Ju_surveyPair (v1 : Nat) (v2 : Int32) (v3 : Int32) (σ : Mem) : Option Mem :=
  Ju_surveyPair_b9 FU v1 v2 v3 0 0 0 σ

def Ju_survey_b63 (k56 : Nat → Int32 → Mem → Option Mem) : Nat → Nat → Int32 → Int32 → Mem → Option Mem
  | 0, _, _, _, _ => none
  | n + 1, v1, v2, v3, σ =>
    if 4 ≤ v3 then
      k56 v1 (v2 + 1) σ
    else
      (Ju_covers v1 v2 v3 σ).bind fun q72 =>
      if q72 = 0 then
        (Ju_survey_b63 k56 n) v1 v2 (v3 + 1) σ
      else
        (Ju_surveyPair v1 v2 v3 σ).bind fun q82 =>
        (Ju_survey_b63 k56 n) v1 v2 (v3 + 1) q82

def Ju_survey_b56  : Nat → Nat → Int32 → Mem → Option Mem
  | 0, _, _, _ => none
  | n + 1, v1, v2, σ =>
    if 4 ≤ v2 then
      some σ
    else
      Ju_survey_b63 (Ju_survey_b56 n) FU v1 v2 0 σ

def Ju_survey_b28  : Nat → Nat → Int32 → Mem → Option Mem
  | 0, _, _, _ => none
  | n + 1, v1, v2, σ =>
    if 64 ≤ v2 then
      Ju_survey_b56 FU v1 0 σ
    else
      if pmIn v2 64 = true then
      if pmIn v2 64 = true then
      (Ju_survey_b28 n) v1 (v2 + 1) (mput (mput σ (v1 + 3) v2.toNatClampNeg 0) (v1 + 4) v2.toNatClampNeg 0)
      else none
      else none

def Ju_survey (v1 : Nat) (σ : Mem) : Option Mem :=
  if ¬ (σ v1 12) = (σ 1 5) then
    Ju_survey_b28 FU v1 0 (mput σ v1 12 (σ 1 5))
  else
    some σ

def Se_get (v0 : Nat) (v1 : Int32) (σ : Mem) : Option Nat :=
  if pmIn v1 9 = true then
  if isPo (ix (σ (v0 + 1) v1.toNatClampNeg)) then
  some (ix (σ (v0 + 1) v1.toNatClampNeg))
  else none
  else none

def Ps_policy (v1 : Int32) (v2 : Int32) (v3 : Int32) (σ : Mem) : Option (Int32 × Mem) :=
  (Ps_isPolicy v1 v2 σ).bind fun q3 =>
  if ¬ q3 = 0 then
    (Ps_chosen v1 σ).bind fun q14 =>
    (Se_get q14 v2 σ).bind fun q18 =>
    if v3 = 0 then
      if (σ q18 0) = 0 then
        some (0, σ)
      else
        some (1, σ)
    else
    if v3 = 1 then
      some ((σ q18 2), σ)
    else
    if v3 = 2 then
      if (σ q18 1) = 0 then
        some (0, σ)
      else
        some (1, σ)
    else
    if v3 = 3 then
      (Ju_survey q18 σ).bind fun q100 =>
      (Ps_countBits (q18 + 3) q100).bind fun q108 =>
      some (q108, q100)
    else
    if v3 = 4 then
      (Ju_survey q18 σ).bind fun q118 =>
      (Ps_countBits (q18 + 4) q118).bind fun q126 =>
      some (q126, q118)
    else
      some ((-2), σ)
  else
    some ((-2), σ)

def Ps_deedOf (v0 : Int32) : Int32 :=
  ((v0 >>> (7 &&& 31)) &&& 3)

def Ju_verdict_b36 (v1 : Nat) (v2 : Int32) (s0 : Int32) (σ : Mem) : Option (Int32 × Mem) :=
  if s0 = 0 then
    some (0, σ)
  else
    (Ju_conditions v1 v2 σ).bind fun q44 =>
    some (q44.1, q44.2)

def Ju_verdict_b35 (v1 : Nat) (v2 : Int32) (σ : Mem) : Option (Int32 × Mem) :=
  Ju_verdict_b36 v1 v2 0 σ

def Ju_verdict (v1 : Nat) (v2 : Int32) (σ : Mem) : Option (Int32 × Mem) :=
  (Ju_covers v1 (Ps_personOf v2) (Ps_thingOf v2) σ).bind fun q10 =>
  if q10 = 0 then
    Ju_verdict_b35 v1 v2 σ
  else
    if (Ju_isInScope (σ v1 5) (Ps_deedOf v2) 0) = 0 then
      Ju_verdict_b35 v1 v2 σ
    else
      Ju_verdict_b36 v1 v2 1 σ

def Se_isAllowed_b5  : Nat → Nat → Int32 → Int32 → Int32 → Mem → Option (Int32 × Mem)
  | 0, _, _, _, _, _ => none
  | n + 1, v0, v2, v3, v4, σ =>
    if (σ v0 1) ≤ v4 then
      if (v3 == 0 || v3 == 1) = true then some (v3, σ) else none
    else
      if pmIn v4 9 = true then
      if isPo (ix (σ (v0 + 1) v4.toNatClampNeg)) then
      (Ju_verdict (ix (σ (v0 + 1) v4.toNatClampNeg)) v2 σ).bind fun q23 =>
      if ¬ q23.1 = 1 then
        (Se_isAllowed_b5 n) v0 v2 v3 (v4 + 1) q23.2
      else
        if pmIn v4 9 = true then
        if isPo (ix (q23.2 (v0 + 1) v4.toNatClampNeg)) then
        if ¬ (q23.2 (ix (q23.2 (v0 + 1) v4.toNatClampNeg)) 0) = 0 then
          (Se_isAllowed_b5 n) v0 v2 1 (v4 + 1) q23.2
        else
          some (0, q23.2)
        else none
        else none
      else none
      else none

def Se_isAllowed (v0 : Nat) (v2 : Int32) (σ : Mem) : Option (Int32 × Mem) :=
  Se_isAllowed_b5 FU v0 v2 0 0 σ

def Se_withVerdict_b6  : Nat → Nat → Int32 → Int32 → Int32 → Int32 → Mem → Option (Int32 × Mem)
  | 0, _, _, _, _, _, _ => none
  | n + 1, v0, v2, v3, v4, v5, σ =>
    if (σ v0 1) ≤ v5 then
      some (v4, σ)
    else
      if pmIn v5 9 = true then
      if isPo (ix (σ (v0 + 1) v5.toNatClampNeg)) then
      (Ju_verdict (ix (σ (v0 + 1) v5.toNatClampNeg)) v2 σ).bind fun q26 =>
      if ¬ q26.1 = v3 then
        (Se_withVerdict_b6 n) v0 v2 v3 (v4 ||| 0) (v5 + 1) q26.2
      else
        (Se_withVerdict_b6 n) v0 v2 v3 (v4 ||| (1 <<< (v5 &&& 31))) (v5 + 1) q26.2
      else none
      else none

def Se_withVerdict (v0 : Nat) (v2 : Int32) (v3 : Int32) (σ : Mem) : Option (Int32 × Mem) :=
  Se_withVerdict_b6 FU v0 v2 v3 0 0 σ

def Ps_ask (v1 : Int32) (v2 : Int32) (v3 : Int32) (σ : Mem) : Option (Int32 × Mem) :=
  if (Ps_isSet v1) = 0 then
    some ((-2), σ)
  else
    if v2 < 0 then
      some ((-2), σ)
    else
      if v2 < 2048 then
        if v3 = 0 then
          (Ps_chosen v1 σ).bind fun q50 =>
          (Se_isAllowed q50 v2 σ).bind fun q58 =>
          if q58.1 = 0 then
            some (0, q58.2)
          else
            some (1, q58.2)
        else
        if v3 = 1 then
          (Ps_chosen v1 σ).bind fun q72 =>
          (Se_withVerdict q72 v2 1 σ).bind fun q81 =>
          some (q81.1, q81.2)
        else
        if v3 = 2 then
          (Ps_chosen v1 σ).bind fun q87 =>
          (Se_withVerdict q87 v2 2 σ).bind fun q96 =>
          some (q96.1, q96.2)
        else
          some ((-2), σ)
      else
        some ((-2), σ)

def Ps_firstBit_b2  : Nat → Nat → Int32 → Mem → Option Int32
  | 0, _, _, _ => none
  | n + 1, v0, v1, σ =>
    if (64 * 32) ≤ v1 then
      some (-1)
    else
      if pmIn (v1 / 32) 64 = true then
      if (Ps_hasBit (σ v0 (v1 / 32).toNatClampNeg) (v1 - v1 / 32 * 32)) = 0 then
        (Ps_firstBit_b2 n) v0 (v1 + 1) σ
      else
        some v1
      else none

def Ps_firstBit (v0 : Nat) (σ : Mem) : Option Int32 :=
  Ps_firstBit_b2 FU v0 0 σ

def Ps_lastBit_b8  : Nat → Nat → Int32 → Mem → Option Int32
  | 0, _, _, _ => none
  | n + 1, v0, v1, σ =>
    if v1 < 0 then
      some (-1)
    else
      if pmIn (v1 / 32) 64 = true then
      if (Ps_hasBit (σ v0 (v1 / 32).toNatClampNeg) (v1 - v1 / 32 * 32)) = 0 then
        (Ps_lastBit_b8 n) v0 (v1 + (-1)) σ
      else
        some v1
      else none

def Ps_lastBit (v0 : Nat) (σ : Mem) : Option Int32 :=
  Ps_lastBit_b8 FU v0 ((64 * 32) - 1) σ

def Se_allowedBits_b39 (k8 : Nat → Int32 → Int32 → Int32 → Int32 → Int32 → Mem → Option Int32) (v0 : Nat) (v1 : Int32) (v2 : Int32) (v3 : Int32) (v4 : Int32) (v5 : Int32) (s0 : Int32) (σ : Mem) : Option Int32 :=
  if pmIn v5 9 = true then
  if isPo (ix (σ (v0 + 1) v5.toNatClampNeg)) then
  if (σ (ix (σ (v0 + 1) v5.toNatClampNeg)) 0) = 0 then
    k8 v0 v1 v2 v3 (v4 ||| s0) (v5 + 1) σ
  else
    k8 v0 v1 v2 (v3 ||| s0) v4 (v5 + 1) σ
  else none
  else none

def Se_allowedBits_b8  : Nat → Nat → Int32 → Int32 → Int32 → Int32 → Int32 → Mem → Option Int32
  | 0, _, _, _, _, _, _, _ => none
  | n + 1, v0, v1, v2, v3, v4, v5, σ =>
    if (σ v0 1) ≤ v5 then
      some (v3 &&& (v4 ^^^ (-1)))
    else
      if ¬ v5 = v2 then
        if pmIn v5 9 = true then
        if isPo (ix (σ (v0 + 1) v5.toNatClampNeg)) then
        if pmIn v1 64 = true then
        Se_allowedBits_b39 (Se_allowedBits_b8 n) v0 v1 v2 v3 v4 v5 (σ ((ix (σ (v0 + 1) v5.toNatClampNeg)) + 3) v1.toNatClampNeg) σ
        else none
        else none
        else none
      else
        Se_allowedBits_b39 (Se_allowedBits_b8 n) v0 v1 v2 v3 v4 v5 0 σ

def Se_allowedBits (v0 : Nat) (v1 : Int32) (v2 : Int32) (σ : Mem) : Option Int32 :=
  Se_allowedBits_b8 FU v0 v1 v2 0 0 0 σ

def Se_survey_b2  : Nat → Nat → Int32 → Mem → Option Mem
  | 0, _, _, _ => none
  | n + 1, v0, v2, σ =>
    if (σ v0 1) ≤ v2 then
      some σ
    else
      if pmIn v2 9 = true then
      if isPo (ix (σ (v0 + 1) v2.toNatClampNeg)) then
      (Ju_survey (ix (σ (v0 + 1) v2.toNatClampNeg)) σ).bind fun q17 =>
      (Se_survey_b2 n) v0 (v2 + 1) q17
      else none
      else none

def Se_survey (v0 : Nat) (σ : Mem) : Option Mem :=
  Se_survey_b2 FU v0 0 σ

def Ps_allows_b36  : Nat → Int32 → Nat → Int32 → Mem → Option (Int32 × Mem)
  | 0, _, _, _, _ => none
  | n + 1, v2, v3, v4, σ =>
    if 64 ≤ v4 then
      if ¬ v2 = 0 then
        if ¬ v2 = 1 then
          (Ps_lastBit 111 σ).bind fun q94 =>
          some (q94, σ)
        else
          (Ps_firstBit 111 σ).bind fun q84 =>
          some (q84, σ)
      else
        (Ps_countBits 111 σ).bind fun q71 =>
        some (q71, σ)
    else
      (Se_allowedBits v3 v4 (-1) σ).bind fun q53 =>
      if pmIn v4 64 = true then
      (Ps_allows_b36 n) v2 v3 (v4 + 1) (mput σ 111 v4.toNatClampNeg q53)
      else none

def Ps_allows (v1 : Int32) (v2 : Int32) (σ : Mem) : Option (Int32 × Mem) :=
  if (Ps_isSet v1) = 0 then
    some ((-2), σ)
  else
    if v2 < 0 then
      some ((-2), σ)
    else
      if v2 ≤ 2 then
        (Ps_chosen v1 σ).bind fun q21 =>
        (Se_survey q21 σ).bind fun q30 =>
        Ps_allows_b36 FU v2 q21 0 q30
      else
        some ((-2), σ)

def Ps_difference (v0 : Int32) (v1 : Int32) (v2 : Int32) : Int32 :=
  if ¬ v2 = 0 then
    if ¬ v2 = 1 then
      (v0 ^^^ v1)
    else
      (v1 &&& (v0 ^^^ (-1)))
  else
    (v0 &&& (v1 ^^^ (-1)))

def Ps_compare_b36  : Nat → Int32 → Int32 → Mem → Option (Int32 × Mem)
  | 0, _, _, _ => none
  | n + 1, v1, v2, σ =>
    if 64 ≤ v2 then
      if ¬ v1 = 2 then
        (Ps_countBits 111 σ).bind fun q95 =>
        some (q95, σ)
      else
        (Ps_firstBit 111 σ).bind fun q85 =>
        some (q85, σ)
    else
      (Se_allowedBits 17 v2 (-1) σ).bind fun q53 =>
      (Se_allowedBits 64 v2 (-1) σ).bind fun q62 =>
      if pmIn v2 64 = true then
      (Ps_compare_b36 n) v1 (v2 + 1) (mput σ 111 v2.toNatClampNeg (Ps_difference q53 q62 v1))
      else none

def Ps_compare (v1 : Int32) (σ : Mem) : Option (Int32 × Mem) :=
  if v1 < 0 then
    some ((-2), σ)
  else
    if v1 ≤ 2 then
      (Se_survey 17 σ).bind fun q20 =>
      (Se_survey 64 q20).bind fun q31 =>
      Ps_compare_b36 FU v1 0 q31
    else
      some ((-2), σ)

def Ps_needless_b29  : Nat → Int32 → Nat → Int32 → Mem → Option (Int32 × Mem)
  | 0, _, _, _, _ => none
  | n + 1, v2, v3, v4, σ =>
    if 64 ≤ v4 then
      some (1, σ)
    else
      (Se_allowedBits v3 v4 (-1) σ).bind fun q40 =>
      (Se_allowedBits v3 v4 v2 σ).bind fun q47 =>
      if q40 = q47 then
        (Ps_needless_b29 n) v2 v3 (v4 + 1) σ
      else
        some (0, σ)

def Ps_needless (v1 : Int32) (v2 : Int32) (σ : Mem) : Option (Int32 × Mem) :=
  (Ps_isPolicy v1 v2 σ).bind fun q3 =>
  if ¬ q3 = 0 then
    (Ps_chosen v1 σ).bind fun q14 =>
    (Se_survey q14 σ).bind fun q23 =>
    Ps_needless_b29 FU v2 q14 0 q23
  else
    some ((-2), σ)
