/-! THE METHODS AS FUNCTIONS over the memory: printed by wip/gen/run.py -/
def f_LR_init (a0 : Nat) (mem : mx_Mem) : Option (mx_Mem) :=
    Option.bind (some (mx_n mem (.inl (0, 12, .inr (.inr (.inr (.inr (fun _ => none)))))))) fun m1 =>
    Option.bind (mx_p m1 (some a0) 0 0 (va_rf (some mem.1))) fun m3 =>
    Option.bind (some (mx_n m3 (.inl (1, 6, .inr (.inr (.inr (.inr (fun _ => none)))))))) fun m5 =>
    Option.bind (mx_p m5 (some a0) 0 2 (va_rf (some m3.1))) fun m7 =>
    Option.bind (some (mx_n m7 (.inl (1, 6, .inr (.inr (.inr (.inr (fun _ => none)))))))) fun m9 =>
    Option.bind (mx_p m9 (some a0) 0 3 (va_rf (some m7.1))) fun m11 =>
    Option.bind (mx_p m11 (some a0) 0 1 (.int 0)) fun m13 =>
    Option.bind (mx_p m13 (some a0) 0 4 (.int 0)) fun m15 =>
    some m15
def f_LR_isWithin (v0 : Int64) (v2 : Int64) (v4 : Int64) (mem : mx_Mem) : Option (Int32 × mx_Mem) :=
    if v0 < v2 then (some (0, mem))
    else (if v4 < v0 then (some (0, mem))
      else (some (1, mem)))
def f_LR_isPlace (v0 : Int32) (mem : mx_Mem) : Option (Int32 × mx_Mem) :=
    Option.bind (f_LR_isWithin v0.toInt64 0 9 mem) fun q1 =>
    Option.bind (mx_z q1.1) fun _ =>
    some (q1.1, q1.2)
def f_Li_init (a0 : Nat) (v1 : Int32) (v2 : Int32) (v3 : Int32) (v4 : Int64) (v6 : Int64) (mem : mx_Mem) : Option (mx_Mem) :=
    Option.bind (mx_p mem (some a0) 1 0 (.int v1)) fun m1 =>
    Option.bind (mx_p m1 (some a0) 1 1 (.int v2)) fun m3 =>
    Option.bind (mx_p m3 (some a0) 1 2 (.int v3)) fun m5 =>
    Option.bind (mx_p m5 (some a0) 1 3 (.long v4)) fun m7 =>
    Option.bind (mx_p m7 (some a0) 1 4 (.long v6)) fun m9 =>
    Option.bind (mx_p m9 (some a0) 1 5 (.long 0)) fun m11 =>
    Option.bind (mx_p m11 (some a0) 1 6 (.long 0)) fun m13 =>
    Option.bind (mx_p m13 (some a0) 1 7 (.long v4)) fun m15 =>
    some m15
def f_Li_forgetWaiting (a0 : Nat) (mem : mx_Mem) : Option (mx_Mem) :=
    Option.bind (mx_gl mem (some a0) 1 3) fun x1 =>
    Option.bind (mx_gl mem (some a0) 1 5) fun x3 =>
    Option.bind (mx_p mem (some a0) 1 7 (.long ((x1 + x3)))) fun m5 =>
    some m5
def f_Li_arrivesAt (a0 : Nat) (mem : mx_Mem) : Option (Int64 × mx_Mem) :=
    Option.bind (mx_gl mem (some a0) 1 4) fun x1 =>
    Option.bind (mx_gl mem (some a0) 1 7) fun x3 =>
    Option.bind (mx_gl mem (some a0) 1 3) fun x5 =>
    some ((x1 + (x3 - x5)), mem)
def f_Lo_pickedOption (a0 : Nat) (mem : mx_Mem) : Option (Option Nat × mx_Mem) :=
    Option.bind (mx_gi mem (some a0) 3 6) fun x1 =>
    if x1 < 0 then (some (none, mem))
    else (Option.bind (mx_gi mem (some a0) 3 6) fun x4 =>
      Option.bind (mx_gi mem (some a0) 3 5) fun x6 =>
      if x6 ≤ x4 then (some (none, mem))
      else (Option.bind (mx_gr mem (some a0) 3 4) fun x9 =>
        Option.bind (mx_gi mem (some a0) 3 6) fun x11 =>
        Option.bind (mx_ag mem x9 2 x11) fun x13 =>
        some (x13, mem)))
def f_Li_holdUntil (a0 : Nat) (v1 : Int64) (mem : mx_Mem) : Option (mx_Mem) :=
    Option.bind (mx_gl mem (some a0) 1 3) fun x1 =>
    Option.bind (mx_gl mem (some a0) 1 5) fun x3 =>
    Option.bind (mx_gl mem (some a0) 1 6) fun x5 =>
    if x5 < (v1 - (x1 + x3)) then (some mem)
    else (Option.bind (mx_gl mem (some a0) 1 7) fun x8 =>
      Option.bind (mx_p mem (some a0) 1 7 (.long ((if v1 < x8 then x8 else v1)))) fun m10 =>
      some m10)
def f_Lo_comeAndHold (a0 : Nat) (mem : mx_Mem) : Option (mx_Mem) :=
    Option.bind (mx_gr mem (some a0) 3 0) fun x1 =>
    Option.bind (mx_c mem x1 1) fun a6 =>
    Option.bind (f_Li_arrivesAt a6  mem) fun q3 =>
    Option.bind (mx_p q3.2 (some a0) 3 8 (.long q3.1)) fun m8 =>
    Option.bind (mx_c m8 (some a0) 3) fun a13 =>
    Option.bind (f_Lo_pickedOption a13  m8) fun q10 =>
    if q10.1 = none then (some q10.2)
    else (Option.bind (mx_gi q10.2 q10.1 2 0) fun x16 =>
      if x16 = 1 then (Option.bind (mx_gr q10.2 q10.1 2 1) fun x19 =>
        if x19 = none then (some q10.2)
        else (Option.bind (mx_gr q10.2 q10.1 2 1) fun x22 =>
          Option.bind (mx_gl q10.2 (some a0) 3 8) fun x24 =>
          Option.bind (mx_c q10.2 x22 1) fun a29 =>
          Option.bind (f_Li_holdUntil a29 (x24 + 10) q10.2) fun q26 =>
          some q26))
      else (some q10.2))
def f_Lo_isDirect (a0 : Nat) (mem : mx_Mem) : Option (Int32 × mx_Mem) :=
    Option.bind (mx_gr mem (some a0) 3 0) fun x1 =>
    Option.bind (mx_gi mem x1 1 2) fun x3 =>
    Option.bind (mx_gi mem (some a0) 3 1) fun x5 =>
    if x3 = x5 then (some (1, mem))
    else (some (0, mem))
def f_Lo_catches (a0 : Nat) (v1 : Option Nat) (mem : mx_Mem) : Option (Int32 × mx_Mem) :=
    Option.bind (mx_gl mem v1 1 7) fun x1 =>
    Option.bind (mx_gl mem (some a0) 3 8) fun x3 =>
    if x1 < (x3 + 10) then (some (0, mem))
    else (some (1, mem))
def fj_Lo_arrive_91 (v0 : Option Nat) (mem : mx_Mem) : Option (mx_Mem) :=
    Option.bind (mx_gl mem v0 3 8) fun x1 =>
    Option.bind (mx_p mem v0 3 9 (.long ((x1 + 1440)))) fun m3 =>
    Option.bind (mx_p m3 v0 3 11 (.int 1)) fun m5 =>
    some m5
def fj_Lo_arrive_55 (v0 : Option Nat) (v1 : Option Nat) (mem : mx_Mem) : Option (mx_Mem) :=
    if v1 = none then (fj_Lo_arrive_91 v0 mem)
    else (Option.bind (mx_gr mem v1 2 1) fun x2 =>
      if x2 = none then (fj_Lo_arrive_91 v0 mem)
      else (Option.bind (mx_gr mem v1 2 1) fun x5 =>
        Option.bind (mx_c mem v0 3) fun a10 =>
        Option.bind (f_Lo_catches a10 x5 mem) fun q7 =>
        if q7.1 = 0 then (fj_Lo_arrive_91 v0 q7.2)
        else (Option.bind (mx_gr q7.2 v1 2 1) fun x13 =>
          Option.bind (mx_c q7.2 x13 1) fun a18 =>
          Option.bind (f_Li_arrivesAt a18  q7.2) fun q15 =>
          Option.bind (mx_p q15.2 v0 3 9 (.long q15.1)) fun m20 =>
          some m20)))
def f_Lo_arrive (a0 : Nat) (mem : mx_Mem) : Option (mx_Mem) :=
    Option.bind (mx_c mem (some a0) 3) fun a4 =>
    Option.bind (f_Lo_pickedOption a4  mem) fun q1 =>
    Option.bind (mx_p q1.2 (some a0) 3 11 (.int 0)) fun m6 =>
    Option.bind (mx_c m6 (some a0) 3) fun a11 =>
    Option.bind (f_Lo_isDirect a11  m6) fun q8 =>
    if q8.1 = 0 then (if q1.1 = none then (fj_Lo_arrive_55 (some a0) q1.1 q8.2)
      else (Option.bind (mx_gi q8.2 q1.1 2 0) fun x15 =>
        if x15 = 2 then (Option.bind (mx_gl q8.2 (some a0) 3 8) fun x18 =>
          Option.bind (mx_p q8.2 (some a0) 3 9 (.long ((x18 + 60)))) fun m20 =>
          some m20)
        else (fj_Lo_arrive_55 (some a0) q1.1 q8.2)))
    else (Option.bind (mx_gl q8.2 (some a0) 3 8) fun x14 =>
      Option.bind (mx_p q8.2 (some a0) 3 9 (.long x14)) fun m16 =>
      some m16)
def fl_LR_settle_2 (k0 : Option Nat → mx_Mem → Option (mx_Mem)) : Nat → Option Nat → Int32 → mx_Mem → Option (mx_Mem)
  | 0, _, _, _ => none
  | n + 1, v0, v1, mem => Option.bind (mx_gi mem v0 0 1) fun x1 =>
    if x1 ≤ v1 then (k0 v0 mem)
    else (Option.bind (mx_gr mem v0 0 0) fun x4 =>
      Option.bind (mx_ag mem x4 0 v1) fun x6 =>
      Option.bind (mx_c mem x6 1) fun a11 =>
      Option.bind (f_Li_forgetWaiting a11  mem) fun q8 =>
      fl_LR_settle_2 k0 n v0 (v1 + 1) q8)
def fl_LR_settle_27 (k0 : Option Nat → mx_Mem → Option (mx_Mem)) : Nat → Option Nat → Int32 → mx_Mem → Option (mx_Mem)
  | 0, _, _, _ => none
  | n + 1, v0, v1, mem => Option.bind (mx_gi mem v0 0 4) fun x1 =>
    if x1 ≤ v1 then (k0 v0 mem)
    else (Option.bind (mx_gr mem v0 0 3) fun x4 =>
      Option.bind (mx_ag mem x4 1 v1) fun x6 =>
      Option.bind (mx_c mem x6 3) fun a11 =>
      Option.bind (f_Lo_comeAndHold a11  mem) fun q8 =>
      fl_LR_settle_27 k0 n v0 (v1 + 1) q8)
def fl_LR_settle_52  : Nat → Option Nat → Int32 → mx_Mem → Option (mx_Mem)
  | 0, _, _, _ => none
  | n + 1, v0, v1, mem => Option.bind (mx_gi mem v0 0 4) fun x1 =>
    if x1 ≤ v1 then (some mem)
    else (Option.bind (mx_gr mem v0 0 2) fun x4 =>
      Option.bind (mx_ag mem x4 1 v1) fun x6 =>
      Option.bind (mx_c mem x6 3) fun a11 =>
      Option.bind (f_Lo_arrive a11  mem) fun q8 =>
      fl_LR_settle_52 n v0 (v1 + 1) q8)
def f_LR_settle (a0 : Nat) (mem : mx_Mem) : Option (mx_Mem) :=
    fl_LR_settle_2 (fun (v0 : Option Nat) (m1 : mx_Mem) => fl_LR_settle_27 (fun (v0 : Option Nat) (m2 : mx_Mem) => fl_LR_settle_52  5000 v0 0 m2) 5000 v0 0 m1) 5000 (some a0) 0 mem
def f_LR_line (a0 : Nat) (v1 : Int32) (v2 : Int32) (v3 : Int64) (v5 : Int64) (mem : mx_Mem) : Option (Int32 × mx_Mem) :=
    Option.bind (f_LR_isPlace v1 mem) fun q1 =>
    if q1.1 = 0 then (some ((-12), q1.2))
    else (Option.bind (f_LR_isPlace v2 q1.2) fun q5 =>
      if q5.1 = 0 then (some ((-12), q5.2))
      else (if v1 = v2 then (some ((-12), q5.2))
        else (Option.bind (f_LR_isWithin v3 0 10000 q5.2) fun q10 =>
          if q10.1 = 0 then (some ((-12), q10.2))
          else (Option.bind (f_LR_isWithin v5 0 10000 q10.2) fun q14 =>
            if q14.1 = 0 then (some ((-12), q14.2))
            else (if v3 < v5 then (Option.bind (mx_gi q14.2 (some a0) 0 1) fun x19 =>
                Option.bind (mx_gr q14.2 (some a0) 0 0) fun x21 =>
                Option.bind (mx_al q14.2 x21 0) fun x23 =>
                if x19 < x23 then (Option.bind (mx_gr q14.2 (some a0) 0 0) fun x26 =>
                  Option.bind (mx_gi q14.2 (some a0) 0 1) fun x28 =>
                  Option.bind (some (mx_n q14.2 (.inr (1, [.int 0, .int 0, .int 0, .long 0, .long 0, .long 0, .long 0, .long 0])))) fun m30 =>
                  Option.bind (mx_gi m30 (some a0) 0 1) fun x32 =>
                  Option.bind (f_Li_init ((q14.2).1) (x32 + 1) v1 v2 v3 v5 m30) fun q34 =>
                  Option.bind (mx_cn q34 (some (q14.2).1) 1) fun _ =>
                  Option.bind (mx_as q34 x26 0 x28 (some (q14.2).1)) fun m39 =>
                  Option.bind (mx_gi m39 (some a0) 0 1) fun x40 =>
                  Option.bind (mx_p m39 (some a0) 0 1 (.int ((x40 + 1)))) fun m42 =>
                  Option.bind (mx_c m42 (some a0) 0) fun a47 =>
                  Option.bind (f_LR_settle a47  m42) fun q44 =>
                  Option.bind (mx_gi q44 (some a0) 0 1) fun x49 =>
                  some (x49, q44))
                else (some ((-14), q14.2)))
              else (some ((-12), q14.2)))))))
def f_LR_findLine (a0 : Nat) (v1 : Int32) (mem : mx_Mem) : Option (Option Nat × mx_Mem) :=
    if v1 < 1 then (some (none, mem))
    else (Option.bind (mx_gi mem (some a0) 0 1) fun x2 =>
      if x2 < v1 then (some (none, mem))
      else (Option.bind (mx_gr mem (some a0) 0 0) fun x5 =>
        Option.bind (mx_ag mem x5 0 (v1 - 1)) fun x7 =>
        some (x7, mem)))
def f_Lo_init (a0 : Nat) (v1 : Option Nat) (v2 : Int32) (v3 : Int64) (v5 : Int32) (mem : mx_Mem) : Option (mx_Mem) :=
    Option.bind (some (mx_n mem (.inl (2, 4, .inr (.inr (.inr (.inr (fun _ => none)))))))) fun m1 =>
    Option.bind (mx_p m1 (some a0) 3 4 (va_rf (some mem.1))) fun m3 =>
    Option.bind (mx_p m3 (some a0) 3 0 (va_rf v1)) fun m5 =>
    Option.bind (mx_p m5 (some a0) 3 1 (.int v2)) fun m7 =>
    Option.bind (mx_p m7 (some a0) 3 2 (.long v3)) fun m9 =>
    Option.bind (mx_p m9 (some a0) 3 3 (.int v5)) fun m11 =>
    Option.bind (mx_p m11 (some a0) 3 5 (.int 0)) fun m13 =>
    Option.bind (mx_p m13 (some a0) 3 6 (.int (-1))) fun m15 =>
    Option.bind (mx_p m15 (some a0) 3 7 (.int (-1))) fun m17 =>
    some m17
def fl_LR_fileByLeaving_5  : Nat → Option Nat → Option Nat → Int32 → mx_Mem → Option (mx_Mem)
  | 0, _, _, _, _ => none
  | n + 1, v0, v1, v2, mem => if v2 ≤ 0 then (Option.bind (mx_gr mem v0 0 3) fun x2 =>
      Option.bind (mx_cn mem v1 3) fun _ =>
      Option.bind (mx_as mem x2 1 v2 v1) fun m6 =>
      some m6)
    else (Option.bind (mx_gr mem v0 0 3) fun x2 =>
      Option.bind (mx_ag mem x2 1 (v2 - 1)) fun x4 =>
      Option.bind (mx_gr mem x4 3 0) fun x6 =>
      Option.bind (mx_gl mem x6 1 3) fun x8 =>
      Option.bind (mx_gr mem v1 3 0) fun x10 =>
      Option.bind (mx_gl mem x10 1 3) fun x12 =>
      if x8 ≤ x12 then (Option.bind (mx_gr mem v0 0 3) fun x15 =>
        Option.bind (mx_cn mem v1 3) fun _ =>
        Option.bind (mx_as mem x15 1 v2 v1) fun m19 =>
        some m19)
      else (Option.bind (mx_gr mem v0 0 3) fun x15 =>
        Option.bind (mx_gr mem v0 0 3) fun x17 =>
        Option.bind (mx_ag mem x17 1 (v2 - 1)) fun x19 =>
        Option.bind (mx_cn mem x19 3) fun _ =>
        Option.bind (mx_as mem x15 1 v2 x19) fun m23 =>
        fl_LR_fileByLeaving_5 n v0 v1 (v2 + (-1)) m23))
def f_LR_fileByLeaving (a0 : Nat) (v1 : Option Nat) (mem : mx_Mem) : Option (mx_Mem) :=
    Option.bind (mx_gi mem (some a0) 0 4) fun x1 =>
    fl_LR_fileByLeaving_5  5000 (some a0) v1 x1 mem
def f_LR_load (a0 : Nat) (v1 : Int32) (v2 : Int32) (v3 : Int64) (v5 : Int32) (mem : mx_Mem) : Option (Int32 × mx_Mem) :=
    Option.bind (mx_c mem (some a0) 0) fun a4 =>
    Option.bind (f_LR_findLine a4 v1 mem) fun q1 =>
    if q1.1 = none then (some ((-11), q1.2))
    else (Option.bind (f_LR_isPlace v2 q1.2) fun q7 =>
      if q7.1 = 0 then (some ((-12), q7.2))
      else (Option.bind (f_LR_isWithin v3 0 20000 q7.2) fun q11 =>
        if q11.1 = 0 then (some ((-12), q11.2))
        else (Option.bind (f_LR_isWithin v5.toInt64 1 100 q11.2) fun q15 =>
          if q15.1 = 0 then (some ((-12), q15.2))
          else (Option.bind (mx_gi q15.2 (some a0) 0 4) fun x19 =>
            Option.bind (mx_gr q15.2 (some a0) 0 2) fun x21 =>
            Option.bind (mx_al q15.2 x21 1) fun x23 =>
            if x23 ≤ x19 then (some ((-14), q15.2))
            else (Option.bind (mx_gi q15.2 (some a0) 0 4) fun x26 =>
              Option.bind (mx_gr q15.2 (some a0) 0 3) fun x28 =>
              Option.bind (mx_al q15.2 x28 1) fun x30 =>
              if x26 < x30 then (Option.bind (some (mx_n q15.2 (.inr (3, [.null, .int 0, .long 0, .int 0, .null, .int 0, .int 0, .int 0, .long 0, .long 0, .long 0, .int 0])))) fun m33 =>
                Option.bind (f_Lo_init ((q15.2).1) q1.1 v2 v3 v5 m33) fun q35 =>
                Option.bind (mx_gr q35 (some a0) 0 2) fun x38 =>
                Option.bind (mx_gi q35 (some a0) 0 4) fun x40 =>
                Option.bind (mx_cn q35 (some (q15.2).1) 3) fun _ =>
                Option.bind (mx_as q35 x38 1 x40 (some (q15.2).1)) fun m44 =>
                Option.bind (mx_c m44 (some a0) 0) fun a48 =>
                Option.bind (f_LR_fileByLeaving a48 (some (q15.2).1) m44) fun q45 =>
                Option.bind (mx_gi q45 (some a0) 0 4) fun x50 =>
                Option.bind (mx_p q45 (some a0) 0 4 (.int ((x50 + 1)))) fun m52 =>
                Option.bind (mx_c m52 (some a0) 0) fun a57 =>
                Option.bind (f_LR_settle a57  m52) fun q54 =>
                Option.bind (mx_gi q54 (some a0) 0 4) fun x59 =>
                some (x59, q54))
              else (some ((-14), q15.2)))))))
def f_LR_findLoad (a0 : Nat) (v1 : Int32) (mem : mx_Mem) : Option (Option Nat × mx_Mem) :=
    if v1 < 1 then (some (none, mem))
    else (Option.bind (mx_gi mem (some a0) 0 4) fun x2 =>
      if x2 < v1 then (some (none, mem))
      else (Option.bind (mx_gr mem (some a0) 0 2) fun x5 =>
        Option.bind (mx_ag mem x5 1 (v1 - 1)) fun x7 =>
        some (x7, mem)))
def f_Lo_canGoOnBy (a0 : Nat) (v1 : Option Nat) (mem : mx_Mem) : Option (Int32 × mx_Mem) :=
    Option.bind (mx_gi mem v1 1 1) fun x1 =>
    Option.bind (mx_gr mem (some a0) 3 0) fun x3 =>
    Option.bind (mx_gi mem x3 1 2) fun x5 =>
    if x1 = x5 then (Option.bind (mx_gi mem v1 1 2) fun x8 =>
      Option.bind (mx_gi mem (some a0) 3 1) fun x10 =>
      if x8 = x10 then (Option.bind (mx_gl mem v1 1 3) fun x13 =>
        Option.bind (mx_gr mem (some a0) 3 0) fun x15 =>
        Option.bind (mx_gl mem x15 1 3) fun x17 =>
        if x13 ≤ x17 then (some (0, mem))
        else (some (1, mem)))
      else (some (0, mem)))
    else (some (0, mem))
def f_Lo_hasRoom (a0 : Nat) (mem : mx_Mem) : Option (Int32 × mx_Mem) :=
    Option.bind (mx_gi mem (some a0) 3 5) fun x1 =>
    Option.bind (mx_gr mem (some a0) 3 4) fun x3 =>
    Option.bind (mx_al mem x3 2) fun x5 =>
    if x5 ≤ x1 then (some (0, mem))
    else (some (1, mem))
def f_Op_init (a0 : Nat) (v1 : Int32) (v2 : Option Nat) (v3 : Int64) (mem : mx_Mem) : Option (mx_Mem) :=
    Option.bind (mx_p mem (some a0) 2 0 (.int v1)) fun m1 =>
    Option.bind (mx_p m1 (some a0) 2 1 (va_rf v2)) fun m3 =>
    Option.bind (mx_p m3 (some a0) 2 2 (.long v3)) fun m5 =>
    some m5
def f_Lo_addOption (a0 : Nat) (v1 : Option Nat) (mem : mx_Mem) : Option (Int32 × mx_Mem) :=
    Option.bind (mx_c mem (some a0) 3) fun a4 =>
    Option.bind (f_Lo_hasRoom a4  mem) fun q1 =>
    if q1.1 = 0 then (some ((-1), q1.2))
    else (Option.bind (mx_gr q1.2 (some a0) 3 4) fun x7 =>
      Option.bind (mx_gi q1.2 (some a0) 3 5) fun x9 =>
      Option.bind (mx_cn q1.2 v1 2) fun _ =>
      Option.bind (mx_as q1.2 x7 2 x9 v1) fun m13 =>
      Option.bind (mx_gi m13 (some a0) 3 5) fun x14 =>
      Option.bind (mx_p m13 (some a0) 3 5 (.int ((x14 + 1)))) fun m16 =>
      Option.bind (mx_gi m16 (some a0) 3 6) fun x18 =>
      if 0 ≤ x18 then (Option.bind (mx_gi m16 (some a0) 3 5) fun x21 =>
        some ((x21 - 1), m16))
      else (Option.bind (mx_p m16 (some a0) 3 6 (.int 0)) fun m21 =>
        Option.bind (mx_gi m21 (some a0) 3 5) fun x23 =>
        some ((x23 - 1), m21)))
def fj_LR_option_94 (v0 : Option Nat) (v2 : Int32) (v4 : Int64) (v6 : Option Nat) (v7 : Option Nat) (mem : mx_Mem) : Option (Int32 × mx_Mem) :=
    Option.bind (mx_c mem v6 3) fun a4 =>
    Option.bind (f_Lo_hasRoom a4  mem) fun q1 =>
    if q1.1 = 0 then (some ((-14), q1.2))
    else (Option.bind (some (mx_n q1.2 (.inr (2, [.int 0, .null, .long 0])))) fun m7 =>
      Option.bind (f_Op_init ((q1.2).1) v2 v7 v4 m7) fun q9 =>
      Option.bind (mx_c q9 v6 3) fun a15 =>
      Option.bind (f_Lo_addOption a15 (some (q1.2).1) q9) fun q12 =>
      Option.bind (mx_c q12.2 v0 0) fun a20 =>
      Option.bind (f_LR_settle a20  q12.2) fun q17 =>
      some (q12.1, q17))
def fj_LR_option_41 (v0 : Option Nat) (v2 : Int32) (v4 : Int64) (v6 : Option Nat) (v7 : Option Nat) (mem : mx_Mem) : Option (Int32 × mx_Mem) :=
    Option.bind (f_LR_isWithin v2.toInt64 0 2 mem) fun q1 =>
    if q1.1 = 0 then (some ((-12), q1.2))
    else (Option.bind (f_LR_isWithin v4 0 10000 q1.2) fun q5 =>
      if q5.1 = 0 then (some ((-12), q5.2))
      else (Option.bind (mx_c q5.2 v6 3) fun a12 =>
        Option.bind (f_Lo_isDirect a12  q5.2) fun q9 =>
        if q9.1 = 0 then (if v7 = none then (fj_LR_option_94 v0 v2 v4 v6 v7 q9.2)
          else (Option.bind (mx_c q9.2 v6 3) fun a19 =>
            Option.bind (f_Lo_canGoOnBy a19 v7 q9.2) fun q16 =>
            if q16.1 = 0 then (some ((-13), q16.2))
            else (fj_LR_option_94 v0 v2 v4 v6 v7 q16.2)))
        else (some ((-13), q9.2))))
def f_LR_option (a0 : Nat) (v1 : Int32) (v2 : Int32) (v3 : Int32) (v4 : Int64) (mem : mx_Mem) : Option (Int32 × mx_Mem) :=
    Option.bind (mx_c mem (some a0) 0) fun a4 =>
    Option.bind (f_LR_findLoad a4 v1 mem) fun q1 =>
    if v2 = 2 then (if q1.1 = none then (some ((-11), q1.2))
      else (if v2 = 2 then (fj_LR_option_41 (some a0) v2 v4 q1.1 none q1.2)
        else (if (none : Option Nat) = none then (some ((-11), q1.2))
          else (fj_LR_option_41 (some a0) v2 v4 q1.1 none q1.2))))
    else (Option.bind (mx_c q1.2 (some a0) 0) fun a10 =>
      Option.bind (f_LR_findLine a10 v3 q1.2) fun q7 =>
      if q1.1 = none then (some ((-11), q7.2))
      else (if v2 = 2 then (fj_LR_option_41 (some a0) v2 v4 q1.1 q7.1 q7.2)
        else (if q7.1 = none then (some ((-11), q7.2))
          else (fj_LR_option_41 (some a0) v2 v4 q1.1 q7.1 q7.2))))
def f_LR_waits (a0 : Nat) (v1 : Int32) (v2 : Int64) (mem : mx_Mem) : Option (Int32 × mx_Mem) :=
    Option.bind (mx_c mem (some a0) 0) fun a4 =>
    Option.bind (f_LR_findLine a4 v1 mem) fun q1 =>
    if q1.1 = none then (some ((-11), q1.2))
    else (Option.bind (f_LR_isWithin v2 0 600 q1.2) fun q7 =>
      if q7.1 = 0 then (some ((-12), q7.2))
      else (Option.bind (mx_gl q7.2 q1.1 1 6) fun x11 =>
        Option.bind (mx_p q7.2 q1.1 1 6 (.long v2)) fun m13 =>
        Option.bind (mx_c m13 (some a0) 0) fun a18 =>
        Option.bind (f_LR_settle a18  m13) fun q15 =>
        some (x11.toInt32, q15)))
def f_Lo_minutesBehind (a0 : Nat) (mem : mx_Mem) : Option (Int64 × mx_Mem) :=
    Option.bind (mx_gl mem (some a0) 3 9) fun x1 =>
    Option.bind (mx_gl mem (some a0) 3 2) fun x3 =>
    some ((if (x1 - x3) < 0 then 0 else (x1 - x3)), mem)
def fl_LR_countFailing_4  : Nat → Option Nat → Int32 → Int32 → mx_Mem → Option (Int32 × mx_Mem)
  | 0, _, _, _, _ => none
  | n + 1, v0, v1, v2, mem => Option.bind (mx_gi mem v0 0 4) fun x1 =>
    if x1 ≤ v2 then (some (v1, mem))
    else (Option.bind (mx_gr mem v0 0 2) fun x4 =>
      Option.bind (mx_ag mem x4 1 v2) fun x6 =>
      Option.bind (mx_gi mem x6 3 11) fun x8 =>
      if x8 = 0 then (Option.bind (mx_gr mem v0 0 2) fun x11 =>
        Option.bind (mx_ag mem x11 1 v2) fun x13 =>
        Option.bind (mx_c mem x13 3) fun a18 =>
        Option.bind (f_Lo_minutesBehind a18  mem) fun q15 =>
        if q15.1 ≤ 0 then (fl_LR_countFailing_4 n v0 v1 (v2 + 1) q15.2)
        else (fl_LR_countFailing_4 n v0 (v1 + 1) (v2 + 1) q15.2))
      else (fl_LR_countFailing_4 n v0 (v1 + 1) (v2 + 1) mem))
def f_LR_countFailing (a0 : Nat) (mem : mx_Mem) : Option (Int32 × mx_Mem) :=
    fl_LR_countFailing_4  5000 (some a0) 0 0 mem
def f_LR_late (a0 : Nat) (v1 : Int32) (v2 : Int64) (mem : mx_Mem) : Option (Int32 × mx_Mem) :=
    Option.bind (mx_c mem (some a0) 0) fun a4 =>
    Option.bind (f_LR_findLine a4 v1 mem) fun q1 =>
    if q1.1 = none then (some ((-11), q1.2))
    else (Option.bind (f_LR_isWithin v2 0 2000 q1.2) fun q7 =>
      if q7.1 = 0 then (some ((-12), q7.2))
      else (Option.bind (mx_p q7.2 q1.1 1 5 (.long v2)) fun m11 =>
        Option.bind (mx_c m11 (some a0) 0) fun a16 =>
        Option.bind (f_LR_settle a16  m11) fun q13 =>
        Option.bind (mx_c q13 (some a0) 0) fun a21 =>
        Option.bind (f_LR_countFailing a21  q13) fun q18 =>
        some (q18.1, q18.2)))
def f_Lo_rememberArrival (a0 : Nat) (mem : mx_Mem) : Option (mx_Mem) :=
    Option.bind (mx_gl mem (some a0) 3 9) fun x1 =>
    Option.bind (mx_p mem (some a0) 3 10 (.long x1)) fun m3 =>
    some m3
def fl_Lo_concerns_18  : Nat → Option Nat → Option Nat → Int32 → mx_Mem → Option (Int32 × mx_Mem)
  | 0, _, _, _, _ => none
  | n + 1, v0, v1, v2, mem => Option.bind (mx_gi mem v0 3 5) fun x1 =>
    if x1 ≤ v2 then (some (0, mem))
    else (Option.bind (mx_gr mem v0 3 4) fun x4 =>
      Option.bind (mx_ag mem x4 2 v2) fun x6 =>
      Option.bind (mx_gr mem x6 2 1) fun x8 =>
      if x8 = none then (fl_Lo_concerns_18 n v0 v1 (v2 + 1) mem)
      else (Option.bind (mx_gi mem x8 1 0) fun x11 =>
        Option.bind (mx_gi mem v1 1 0) fun x13 =>
        if x11 = x13 then (some (1, mem))
        else (fl_Lo_concerns_18 n v0 v1 (v2 + 1) mem)))
def f_Lo_concerns (a0 : Nat) (v1 : Option Nat) (mem : mx_Mem) : Option (Int32 × mx_Mem) :=
    Option.bind (mx_gr mem (some a0) 3 0) fun x1 =>
    Option.bind (mx_gi mem x1 1 0) fun x3 =>
    Option.bind (mx_gi mem v1 1 0) fun x5 =>
    if x3 = x5 then (some (1, mem))
    else (fl_Lo_concerns_18  5000 (some a0) v1 0 mem)
def f_Lo_pickFirst (a0 : Nat) (mem : mx_Mem) : Option (mx_Mem) :=
    Option.bind (mx_gi mem (some a0) 3 5) fun x1 =>
    if x1 ≤ 0 then (Option.bind (mx_p mem (some a0) 3 6 (.int (-1))) fun m4 =>
      some m4)
    else (Option.bind (mx_p mem (some a0) 3 6 (.int 0)) fun m4 =>
      some m4)
def f_Lo_hasMoved (a0 : Nat) (mem : mx_Mem) : Option (Int32 × mx_Mem) :=
    Option.bind (mx_gl mem (some a0) 3 9) fun x1 =>
    Option.bind (mx_gl mem (some a0) 3 10) fun x3 =>
    if x1 = x3 then (some (0, mem))
    else (some (1, mem))
def fl_LR_countMoved_4  : Nat → Option Nat → Int32 → Int32 → mx_Mem → Option (Int32 × mx_Mem)
  | 0, _, _, _, _ => none
  | n + 1, v0, v1, v2, mem => Option.bind (mx_gi mem v0 0 4) fun x1 =>
    if x1 ≤ v2 then (some (v1, mem))
    else (Option.bind (mx_gr mem v0 0 2) fun x4 =>
      Option.bind (mx_ag mem x4 1 v2) fun x6 =>
      Option.bind (mx_c mem x6 3) fun a11 =>
      Option.bind (f_Lo_hasMoved a11  mem) fun q8 =>
      if q8.1 = 0 then (fl_LR_countMoved_4 n v0 v1 (v2 + 1) q8.2)
      else (fl_LR_countMoved_4 n v0 (v1 + 1) (v2 + 1) q8.2))
def f_LR_countMoved (a0 : Nat) (mem : mx_Mem) : Option (Int32 × mx_Mem) :=
    fl_LR_countMoved_4  5000 (some a0) 0 0 mem
def fl_LR_tell_32  : Nat → Option Nat → Int64 → Option Nat → Int32 → mx_Mem → Option (Int32 × mx_Mem)
  | 0, _, _, _, _, _ => none
  | n + 1, v0, v2, v4, v5, mem => Option.bind (mx_gi mem v0 0 4) fun x1 =>
    if x1 ≤ v5 then (Option.bind (mx_p mem v4 1 5 (.long v2)) fun m4 =>
      Option.bind (mx_c m4 v0 0) fun a9 =>
      Option.bind (f_LR_settle a9  m4) fun q6 =>
      Option.bind (mx_c q6 v0 0) fun a14 =>
      Option.bind (f_LR_countMoved a14  q6) fun q11 =>
      some (q11.1, q11.2))
    else (Option.bind (mx_gr mem v0 0 2) fun x4 =>
      Option.bind (mx_ag mem x4 1 v5) fun x6 =>
      Option.bind (mx_c mem x6 3) fun a11 =>
      Option.bind (f_Lo_rememberArrival a11  mem) fun q8 =>
      Option.bind (mx_gr q8 v0 0 2) fun x13 =>
      Option.bind (mx_ag q8 x13 1 v5) fun x15 =>
      Option.bind (mx_c q8 x15 3) fun a20 =>
      Option.bind (f_Lo_concerns a20 v4 q8) fun q17 =>
      if q17.1 = 0 then (fl_LR_tell_32 n v0 v2 v4 (v5 + 1) q17.2)
      else (Option.bind (mx_gr q17.2 v0 0 2) fun x23 =>
        Option.bind (mx_ag q17.2 x23 1 v5) fun x25 =>
        Option.bind (mx_c q17.2 x25 3) fun a30 =>
        Option.bind (f_Lo_pickFirst a30  q17.2) fun q27 =>
        fl_LR_tell_32 n v0 v2 v4 (v5 + 1) q27))
def f_LR_tell (a0 : Nat) (v1 : Int32) (v2 : Int64) (mem : mx_Mem) : Option (Int32 × mx_Mem) :=
    Option.bind (mx_c mem (some a0) 0) fun a4 =>
    Option.bind (f_LR_findLine a4 v1 mem) fun q1 =>
    if q1.1 = none then (some ((-11), q1.2))
    else (Option.bind (f_LR_isWithin v2 0 2000 q1.2) fun q7 =>
      if q7.1 = 0 then (some ((-12), q7.2))
      else (fl_LR_tell_32  5000 (some a0) v2 q1.1 0 q7.2))
def f_Lo_harm (a0 : Nat) (mem : mx_Mem) : Option (Int64 × mx_Mem) :=
    Option.bind (mx_c mem (some a0) 3) fun a4 =>
    Option.bind (f_Lo_pickedOption a4  mem) fun q1 =>
    Option.bind (mx_gi q1.2 (some a0) 3 3) fun x6 =>
    Option.bind (mx_c q1.2 (some a0) 3) fun a11 =>
    Option.bind (f_Lo_minutesBehind a11  q1.2) fun q8 =>
    if q1.1 = none then (some (((x6.toInt64 * q8.1) + 0), q8.2))
    else (Option.bind (mx_gl q8.2 q1.1 2 2) fun x14 =>
      some (((x6.toInt64 * q8.1) + x14), q8.2))
def fl_LR_sumHarm_4  : Nat → Option Nat → Int64 → Int32 → mx_Mem → Option (Int64 × mx_Mem)
  | 0, _, _, _, _ => none
  | n + 1, v0, v1, v3, mem => Option.bind (mx_gi mem v0 0 4) fun x1 =>
    if x1 ≤ v3 then (some (v1, mem))
    else (Option.bind (mx_gr mem v0 0 2) fun x4 =>
      Option.bind (mx_ag mem x4 1 v3) fun x6 =>
      Option.bind (mx_c mem x6 3) fun a11 =>
      Option.bind (f_Lo_harm a11  mem) fun q8 =>
      fl_LR_sumHarm_4 n v0 (v1 + q8.1) (v3 + 1) q8.2)
def f_LR_sumHarm (a0 : Nat) (mem : mx_Mem) : Option (Int64 × mx_Mem) :=
    fl_LR_sumHarm_4  5000 (some a0) 0 0 mem
def f_Lo_isAct (a0 : Nat) (mem : mx_Mem) : Option (Int32 × mx_Mem) :=
    Option.bind (mx_c mem (some a0) 3) fun a4 =>
    Option.bind (f_Lo_pickedOption a4  mem) fun q1 =>
    if q1.1 = none then (some (0, q1.2))
    else (Option.bind (mx_gi q1.2 q1.1 2 0) fun x7 =>
      if x7 = 0 then (some (0, q1.2))
      else (some (1, q1.2)))
def fl_LR_countActs_4  : Nat → Option Nat → Int32 → Int32 → mx_Mem → Option (Int32 × mx_Mem)
  | 0, _, _, _, _ => none
  | n + 1, v0, v1, v2, mem => Option.bind (mx_gi mem v0 0 4) fun x1 =>
    if x1 ≤ v2 then (some (v1, mem))
    else (Option.bind (mx_gr mem v0 0 2) fun x4 =>
      Option.bind (mx_ag mem x4 1 v2) fun x6 =>
      Option.bind (mx_c mem x6 3) fun a11 =>
      Option.bind (f_Lo_isAct a11  mem) fun q8 =>
      if q8.1 = 0 then (fl_LR_countActs_4 n v0 v1 (v2 + 1) q8.2)
      else (fl_LR_countActs_4 n v0 (v1 + 1) (v2 + 1) q8.2))
def f_LR_countActs (a0 : Nat) (mem : mx_Mem) : Option (Int32 × mx_Mem) :=
    fl_LR_countActs_4  5000 (some a0) 0 0 mem
def f_Lo_keepPicked (a0 : Nat) (mem : mx_Mem) : Option (mx_Mem) :=
    Option.bind (mx_gi mem (some a0) 3 6) fun x1 =>
    Option.bind (mx_p mem (some a0) 3 7 (.int x1)) fun m3 =>
    some m3
def fl_LR_keepChoice_2  : Nat → Option Nat → Int32 → mx_Mem → Option (mx_Mem)
  | 0, _, _, _ => none
  | n + 1, v0, v1, mem => Option.bind (mx_gi mem v0 0 4) fun x1 =>
    if x1 ≤ v1 then (some mem)
    else (Option.bind (mx_gr mem v0 0 2) fun x4 =>
      Option.bind (mx_ag mem x4 1 v1) fun x6 =>
      Option.bind (mx_c mem x6 3) fun a11 =>
      Option.bind (f_Lo_keepPicked a11  mem) fun q8 =>
      fl_LR_keepChoice_2 n v0 (v1 + 1) q8)
def f_LR_keepChoice (a0 : Nat) (mem : mx_Mem) : Option (mx_Mem) :=
    fl_LR_keepChoice_2  5000 (some a0) 0 mem
def f_Lo_pickNext (a0 : Nat) (mem : mx_Mem) : Option (Int32 × mx_Mem) :=
    Option.bind (mx_gi mem (some a0) 3 6) fun x1 =>
    Option.bind (mx_gi mem (some a0) 3 5) fun x3 =>
    if (x1 + 1) < x3 then (Option.bind (mx_gi mem (some a0) 3 6) fun x6 =>
      Option.bind (mx_p mem (some a0) 3 6 (.int ((x6 + 1)))) fun m8 =>
      some (1, m8))
    else (some (0, mem))
def fl_LR_pickNextChoice_7  : Nat → Option Nat → Int32 → mx_Mem → Option (Int32 × mx_Mem)
  | 0, _, _, _ => none
  | n + 1, v0, v1, mem => if v1 < 0 then (some (0, mem))
    else (Option.bind (mx_gr mem v0 0 2) fun x2 =>
      Option.bind (mx_ag mem x2 1 v1) fun x4 =>
      Option.bind (mx_c mem x4 3) fun a9 =>
      Option.bind (f_Lo_pickNext a9  mem) fun q6 =>
      if q6.1 = 0 then (Option.bind (mx_gr q6.2 v0 0 2) fun x12 =>
        Option.bind (mx_ag q6.2 x12 1 v1) fun x14 =>
        Option.bind (mx_c q6.2 x14 3) fun a19 =>
        Option.bind (f_Lo_pickFirst a19  q6.2) fun q16 =>
        fl_LR_pickNextChoice_7 n v0 (v1 + (-1)) q16)
      else (some (1, q6.2)))
def f_LR_pickNextChoice (a0 : Nat) (mem : mx_Mem) : Option (Int32 × mx_Mem) :=
    Option.bind (mx_gi mem (some a0) 0 4) fun x1 =>
    fl_LR_pickNextChoice_7  5000 (some a0) (x1 - 1) mem
def f_Lo_takeKept (a0 : Nat) (mem : mx_Mem) : Option (mx_Mem) :=
    Option.bind (mx_gi mem (some a0) 3 7) fun x1 =>
    Option.bind (mx_p mem (some a0) 3 6 (.int x1)) fun m3 =>
    some m3
def fl_LR_takeKeptChoice_2  : Nat → Option Nat → Int32 → mx_Mem → Option (mx_Mem)
  | 0, _, _, _ => none
  | n + 1, v0, v1, mem => Option.bind (mx_gi mem v0 0 4) fun x1 =>
    if x1 ≤ v1 then (some mem)
    else (Option.bind (mx_gr mem v0 0 2) fun x4 =>
      Option.bind (mx_ag mem x4 1 v1) fun x6 =>
      Option.bind (mx_c mem x6 3) fun a11 =>
      Option.bind (f_Lo_takeKept a11  mem) fun q8 =>
      fl_LR_takeKeptChoice_2 n v0 (v1 + 1) q8)
def f_LR_takeKeptChoice (a0 : Nat) (mem : mx_Mem) : Option (mx_Mem) :=
    fl_LR_takeKeptChoice_2  5000 (some a0) 0 mem
def fl_LR_solve_2 (k0 : Option Nat → mx_Mem → Option (Int64 × mx_Mem)) : Nat → Option Nat → Int32 → mx_Mem → Option (Int64 × mx_Mem)
  | 0, _, _, _ => none
  | n + 1, v0, v1, mem => Option.bind (mx_gi mem v0 0 4) fun x1 =>
    if x1 ≤ v1 then (k0 v0 mem)
    else (Option.bind (mx_gr mem v0 0 2) fun x4 =>
      Option.bind (mx_ag mem x4 1 v1) fun x6 =>
      Option.bind (mx_c mem x6 3) fun a11 =>
      Option.bind (f_Lo_pickFirst a11  mem) fun q8 =>
      fl_LR_solve_2 k0 n v0 (v1 + 1) q8)
def fl_LR_solve_37  : Nat → Option Nat → Int64 → Int32 → Int32 → Int32 → mx_Mem → Option (Int64 × mx_Mem)
  | 0, _, _, _, _, _, _ => none
  | n + 1, v0, v1, v3, v4, v5, mem => if v4 = 0 then (Option.bind (mx_c mem v0 0) fun a5 =>
      Option.bind (f_LR_takeKeptChoice a5  mem) fun q2 =>
      Option.bind (mx_c q2 v0 0) fun a10 =>
      Option.bind (f_LR_settle a10  q2) fun q7 =>
      some (v1, q7))
    else (if 4096 ≤ v5 then (Option.bind (mx_c mem v0 0) fun a6 =>
        Option.bind (f_LR_takeKeptChoice a6  mem) fun q3 =>
        Option.bind (mx_c q3 v0 0) fun a11 =>
        Option.bind (f_LR_settle a11  q3) fun q8 =>
        some (v1, q8))
      else (Option.bind (mx_c mem v0 0) fun a6 =>
        Option.bind (f_LR_settle a6  mem) fun q3 =>
        Option.bind (mx_c q3 v0 0) fun a11 =>
        Option.bind (f_LR_sumHarm a11  q3) fun q8 =>
        Option.bind (mx_c q8.2 v0 0) fun a16 =>
        Option.bind (f_LR_countActs a16  q8.2) fun q13 =>
        if q8.1 < v1 then (Option.bind (mx_c q13.2 v0 0) fun a22 =>
          Option.bind (f_LR_keepChoice a22  q13.2) fun q19 =>
          Option.bind (mx_c q19 v0 0) fun a27 =>
          Option.bind (f_LR_pickNextChoice a27  q19) fun q24 =>
          fl_LR_solve_37 n v0 q8.1 q13.1 q24.1 (v5 + 1) q24.2)
        else (if q8.1 = v1 then (if v3 ≤ q13.1 then (Option.bind (mx_c q13.2 v0 0) fun a24 =>
              Option.bind (f_LR_pickNextChoice a24  q13.2) fun q21 =>
              fl_LR_solve_37 n v0 v1 v3 q21.1 (v5 + 1) q21.2)
            else (Option.bind (mx_c q13.2 v0 0) fun a24 =>
              Option.bind (f_LR_keepChoice a24  q13.2) fun q21 =>
              Option.bind (mx_c q21 v0 0) fun a29 =>
              Option.bind (f_LR_pickNextChoice a29  q21) fun q26 =>
              fl_LR_solve_37 n v0 q8.1 q13.1 q26.1 (v5 + 1) q26.2))
          else (Option.bind (mx_c q13.2 v0 0) fun a23 =>
            Option.bind (f_LR_pickNextChoice a23  q13.2) fun q20 =>
            fl_LR_solve_37 n v0 v1 v3 q20.1 (v5 + 1) q20.2))))
def f_LR_solve (a0 : Nat) (mem : mx_Mem) : Option (Int64 × mx_Mem) :=
    fl_LR_solve_2 (fun (v0 : Option Nat) (m1 : mx_Mem) => fl_LR_solve_37  5000 v0 9223372036854775807 0 1 0 m1) 5000 (some a0) 0 mem
def f_LR_chosen (a0 : Nat) (v1 : Int32) (mem : mx_Mem) : Option (Int32 × mx_Mem) :=
    Option.bind (mx_c mem (some a0) 0) fun a4 =>
    Option.bind (f_LR_findLoad a4 v1 mem) fun q1 =>
    if q1.1 = none then (some ((-11), q1.2))
    else (Option.bind (mx_gi q1.2 q1.1 3 6) fun x7 =>
      some (x7, q1.2))
def f_LR_arrival (a0 : Nat) (v1 : Int32) (mem : mx_Mem) : Option (Int64 × mx_Mem) :=
    Option.bind (mx_c mem (some a0) 0) fun a4 =>
    Option.bind (f_LR_findLoad a4 v1 mem) fun q1 =>
    if q1.1 = none then (some ((-11), q1.2))
    else (Option.bind (mx_gl q1.2 q1.1 3 9) fun x7 =>
      some (x7, q1.2))
def f_LR_departs (a0 : Nat) (v1 : Int32) (mem : mx_Mem) : Option (Int64 × mx_Mem) :=
    Option.bind (mx_c mem (some a0) 0) fun a4 =>
    Option.bind (f_LR_findLine a4 v1 mem) fun q1 =>
    if q1.1 = none then (some ((-11), q1.2))
    else (Option.bind (mx_gl q1.2 q1.1 1 7) fun x7 =>
      some (x7, q1.2))
def fl_LR_none_4  : Nat → Option Nat → Int32 → Int32 → Int32 → mx_Mem → Option (Int32 × mx_Mem)
  | 0, _, _, _, _, _ => none
  | n + 1, v0, v1, v2, v3, mem => Option.bind (mx_gi mem v0 0 4) fun x1 =>
    if x1 ≤ v3 then (some ((-1), mem))
    else (Option.bind (mx_gr mem v0 0 2) fun x4 =>
      Option.bind (mx_ag mem x4 1 v3) fun x6 =>
      Option.bind (mx_gi mem x6 3 11) fun x8 =>
      if x8 = 0 then (fl_LR_none_4 n v0 v1 v2 (v3 + 1) mem)
      else (if v2 = v1 then (some ((v3 + 1), mem))
        else (fl_LR_none_4 n v0 v1 (v2 + 1) (v3 + 1) mem)))
def f_LR_none (a0 : Nat) (v1 : Int32) (mem : mx_Mem) : Option (Int32 × mx_Mem) :=
    fl_LR_none_4  5000 (some a0) v1 0 0 mem
def f_LR_acts (a0 : Nat) (mem : mx_Mem) : Option (Int32 × mx_Mem) :=
    Option.bind (mx_c mem (some a0) 0) fun a4 =>
    Option.bind (f_LR_countActs a4  mem) fun q1 =>
    some (q1.1, q1.2)
