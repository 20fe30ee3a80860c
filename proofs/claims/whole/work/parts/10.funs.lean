/-! THE METHODS AS FUNCTIONS over the memory: printed by wip/gen/run.py -/
def f_LR_init (a0 : Nat) (mem : mx_Mem) : Option (mx_Mem) :=
    Option.bind (some (mx_n mem (.inl (0, 12, .inr (.inr (.inr (.inr (fun _ => none)))))))) fun m1 =>
    Option.bind (mx_p m1 (some a0) 0 0 (va_rf (some mem.1))) fun m3 =>
    Option.bind (some (mx_n m3 (.inl (1, 6, .inr (.inr (.inr (.inr (fun _ => none)))))))) fun m5 =>
    Option.bind (mx_p m5 (some a0) 0 2 (va_rf (some m3.1))) fun m7 =>
    Option.bind (some (mx_n m7 (.inl (1, 6, .inr (.inr (.inr (.inr (fun _ => none)))))))) fun m9 =>
    Option.bind (mx_p m9 (some a0) 0 3 (va_rf (some m7.1))) fun m11 =>
    Option.bind (mx_p m11 (some a0) 0 1 (.int 0)) fun m13 =>
    Option.bind (mx_p m13 (some a0) 0 4 (.int 0)) fun m15 =>
    some m15
def f_Mo_init (a0 : Nat) (mem : mx_Mem) : Option (mx_Mem) :=
    Option.bind (some (mx_n mem (.inl (3, 13, .inl (fun _ => 0))))) fun m1 =>
    Option.bind (mx_p m1 (some a0) 4 2 (va_rf (some mem.1))) fun m3 =>
    Option.bind (some (mx_n m3 (.inl (3, 13, .inl (fun _ => 0))))) fun m5 =>
    Option.bind (mx_p m5 (some a0) 4 3 (va_rf (some m3.1))) fun m7 =>
    Option.bind (some (mx_n m7 (.inl (4, 13, .inr (.inl (fun _ => 0)))))) fun m9 =>
    Option.bind (mx_p m9 (some a0) 4 4 (va_rf (some m7.1))) fun m11 =>
    Option.bind (some (mx_n m11 (.inl (4, 13, .inr (.inl (fun _ => 0)))))) fun m13 =>
    Option.bind (mx_p m13 (some a0) 4 5 (va_rf (some m11.1))) fun m15 =>
    Option.bind (some (mx_n m15 (.inl (4, 13, .inr (.inl (fun _ => 0)))))) fun m17 =>
    Option.bind (mx_p m17 (some a0) 4 6 (va_rf (some m15.1))) fun m19 =>
    Option.bind (some (mx_n m19 (.inl (4, 13, .inr (.inl (fun _ => 0)))))) fun m21 =>
    Option.bind (mx_p m21 (some a0) 4 7 (va_rf (some m19.1))) fun m23 =>
    Option.bind (some (mx_n m23 (.inl (4, 13, .inr (.inl (fun _ => 0)))))) fun m25 =>
    Option.bind (mx_p m25 (some a0) 4 8 (va_rf (some m23.1))) fun m27 =>
    Option.bind (some (mx_n m27 (.inl (3, 7, .inl (fun _ => 0))))) fun m29 =>
    Option.bind (mx_p m29 (some a0) 4 10 (va_rf (some m27.1))) fun m31 =>
    Option.bind (some (mx_n m31 (.inl (3, 7, .inl (fun _ => 0))))) fun m33 =>
    Option.bind (mx_p m33 (some a0) 4 11 (va_rf (some m31.1))) fun m35 =>
    Option.bind (some (mx_n m35 (.inl (4, 7, .inr (.inl (fun _ => 0)))))) fun m37 =>
    Option.bind (mx_p m37 (some a0) 4 12 (va_rf (some m35.1))) fun m39 =>
    Option.bind (some (mx_n m39 (.inl (3, 7, .inl (fun _ => 0))))) fun m41 =>
    Option.bind (mx_p m41 (some a0) 4 13 (va_rf (some m39.1))) fun m43 =>
    Option.bind (some (mx_n m43 (.inl (3, 7, .inl (fun _ => 0))))) fun m45 =>
    Option.bind (mx_p m45 (some a0) 4 14 (va_rf (some m43.1))) fun m47 =>
    Option.bind (some (mx_n m47 (.inl (3, 7, .inl (fun _ => 0))))) fun m49 =>
    Option.bind (mx_p m49 (some a0) 4 15 (va_rf (some m47.1))) fun m51 =>
    Option.bind (some (mx_n m51 (.inl (3, 28, .inl (fun _ => 0))))) fun m53 =>
    Option.bind (mx_p m53 (some a0) 4 16 (va_rf (some m51.1))) fun m55 =>
    Option.bind (some (mx_n m55 (.inl (3, 28, .inl (fun _ => 0))))) fun m57 =>
    Option.bind (mx_p m57 (some a0) 4 17 (va_rf (some m55.1))) fun m59 =>
    Option.bind (some (mx_n m59 (.inl (4, 28, .inr (.inl (fun _ => 0)))))) fun m61 =>
    Option.bind (mx_p m61 (some a0) 4 18 (va_rf (some m59.1))) fun m63 =>
    Option.bind (some (mx_n m63 (.inl (4, 7, .inr (.inl (fun _ => 0)))))) fun m65 =>
    Option.bind (mx_p m65 (some a0) 4 19 (va_rf (some m63.1))) fun m67 =>
    Option.bind (some (mx_n m67 (.inl (5, 7, .inl (fun _ => 0))))) fun m69 =>
    Option.bind (mx_p m69 (some a0) 4 20 (va_rf (some m67.1))) fun m71 =>
    Option.bind (some (mx_n m71 (.inl (3, 7, .inl (fun _ => 0))))) fun m73 =>
    Option.bind (mx_p m73 (some a0) 4 21 (va_rf (some m71.1))) fun m75 =>
    Option.bind (some (mx_n m75 (.inl (4, 7, .inr (.inl (fun _ => 0)))))) fun m77 =>
    Option.bind (mx_p m77 (some a0) 4 22 (va_rf (some m75.1))) fun m79 =>
    some m79
def f_LR_isWithin (v0 : Int64) (v2 : Int64) (v4 : Int64) (mem : mx_Mem) : Option (Int32 × mx_Mem) :=
    if v0 < v2 then (some (0, mem))
    else (if v4 < v0 then (some (0, mem))
      else (some (1, mem)))
def f_LR_isPlace (v0 : Int32) (mem : mx_Mem) : Option (Int32 × mx_Mem) :=
    Option.bind (f_LR_isWithin v0.toInt64 0 9 mem) fun q1 =>
    Option.bind (mx_z q1.1) fun _ =>
    some (q1.1, q1.2)
def f_Li_init (a0 : Nat) (v1 : Int32) (v2 : Int32) (v3 : Int32) (v4 : Int64) (v6 : Int64) (mem : mx_Mem) : Option (mx_Mem) :=
    Option.bind (mx_p mem (some a0) 1 0 (.int v1)) fun m1 =>
    Option.bind (mx_p m1 (some a0) 1 1 (.int v2)) fun m3 =>
    Option.bind (mx_p m3 (some a0) 1 2 (.int v3)) fun m5 =>
    Option.bind (mx_p m5 (some a0) 1 3 (.long v4)) fun m7 =>
    Option.bind (mx_p m7 (some a0) 1 4 (.long v6)) fun m9 =>
    Option.bind (mx_p m9 (some a0) 1 5 (.long 0)) fun m11 =>
    Option.bind (mx_p m11 (some a0) 1 6 (.long 0)) fun m13 =>
    Option.bind (mx_p m13 (some a0) 1 7 (.long v4)) fun m15 =>
    some m15
def f_Li_forgetWaiting (a0 : Nat) (mem : mx_Mem) : Option (mx_Mem) :=
    Option.bind (mx_gl mem (some a0) 1 3) fun x1 =>
    Option.bind (mx_gl mem (some a0) 1 5) fun x3 =>
    Option.bind (mx_p mem (some a0) 1 7 (.long ((x1 + x3)))) fun m5 =>
    some m5
def f_Li_arrivesAt (a0 : Nat) (mem : mx_Mem) : Option (Int64 × mx_Mem) :=
    Option.bind (mx_gl mem (some a0) 1 4) fun x1 =>
    Option.bind (mx_gl mem (some a0) 1 7) fun x3 =>
    Option.bind (mx_gl mem (some a0) 1 3) fun x5 =>
    some ((x1 + (x3 - x5)), mem)
def f_Lo_pickedOption (a0 : Nat) (mem : mx_Mem) : Option (Option Nat × mx_Mem) :=
    Option.bind (mx_gi mem (some a0) 3 6) fun x1 =>
    if x1 < 0 then (some (none, mem))
    else (Option.bind (mx_gi mem (some a0) 3 6) fun x4 =>
      Option.bind (mx_gi mem (some a0) 3 5) fun x6 =>
      if x6 ≤ x4 then (some (none, mem))
      else (Option.bind (mx_gr mem (some a0) 3 4) fun x9 =>
        Option.bind (mx_gi mem (some a0) 3 6) fun x11 =>
        Option.bind (mx_ag mem x9 2 x11) fun x13 =>
        some (x13, mem)))
def f_Li_holdUntil (a0 : Nat) (v1 : Int64) (mem : mx_Mem) : Option (mx_Mem) :=
    Option.bind (mx_gl mem (some a0) 1 3) fun x1 =>
    Option.bind (mx_gl mem (some a0) 1 5) fun x3 =>
    Option.bind (mx_gl mem (some a0) 1 6) fun x5 =>
    if x5 < (v1 - (x1 + x3)) then (some mem)
    else (Option.bind (mx_gl mem (some a0) 1 7) fun x8 =>
      Option.bind (mx_p mem (some a0) 1 7 (.long ((if v1 < x8 then x8 else v1)))) fun m10 =>
      some m10)
def f_Lo_comeAndHold (a0 : Nat) (mem : mx_Mem) : Option (mx_Mem) :=
    Option.bind (mx_gr mem (some a0) 3 0) fun x1 =>
    Option.bind (mx_c mem x1 1) fun a6 =>
    Option.bind (f_Li_arrivesAt a6  mem) fun q3 =>
    Option.bind (mx_p q3.2 (some a0) 3 8 (.long q3.1)) fun m8 =>
    Option.bind (mx_c m8 (some a0) 3) fun a13 =>
    Option.bind (f_Lo_pickedOption a13  m8) fun q10 =>
    if q10.1 = none then (some q10.2)
    else (Option.bind (mx_gi q10.2 q10.1 2 0) fun x16 =>
      if x16 = 1 then (Option.bind (mx_gr q10.2 q10.1 2 1) fun x19 =>
        if x19 = none then (some q10.2)
        else (Option.bind (mx_gr q10.2 q10.1 2 1) fun x22 =>
          Option.bind (mx_gl q10.2 (some a0) 3 8) fun x24 =>
          Option.bind (mx_c q10.2 x22 1) fun a29 =>
          Option.bind (f_Li_holdUntil a29 (x24 + 10) q10.2) fun q26 =>
          some q26))
      else (some q10.2))
def f_Lo_isDirect (a0 : Nat) (mem : mx_Mem) : Option (Int32 × mx_Mem) :=
    Option.bind (mx_gr mem (some a0) 3 0) fun x1 =>
    Option.bind (mx_gi mem x1 1 2) fun x3 =>
    Option.bind (mx_gi mem (some a0) 3 1) fun x5 =>
    if x3 = x5 then (some (1, mem))
    else (some (0, mem))
def f_Lo_catches (a0 : Nat) (v1 : Option Nat) (mem : mx_Mem) : Option (Int32 × mx_Mem) :=
    Option.bind (mx_gl mem v1 1 7) fun x1 =>
    Option.bind (mx_gl mem (some a0) 3 8) fun x3 =>
    if x1 < (x3 + 10) then (some (0, mem))
    else (some (1, mem))
def fj_Lo_arrive_91 (v0 : Option Nat) (mem : mx_Mem) : Option (mx_Mem) :=
    Option.bind (mx_gl mem v0 3 8) fun x1 =>
    Option.bind (mx_p mem v0 3 9 (.long ((x1 + 1440)))) fun m3 =>
    Option.bind (mx_p m3 v0 3 11 (.int 1)) fun m5 =>
    some m5
def fj_Lo_arrive_55 (v0 : Option Nat) (v1 : Option Nat) (mem : mx_Mem) : Option (mx_Mem) :=
    if v1 = none then (fj_Lo_arrive_91 v0 mem)
    else (Option.bind (mx_gr mem v1 2 1) fun x2 =>
      if x2 = none then (fj_Lo_arrive_91 v0 mem)
      else (Option.bind (mx_gr mem v1 2 1) fun x5 =>
        Option.bind (mx_c mem v0 3) fun a10 =>
        Option.bind (f_Lo_catches a10 x5 mem) fun q7 =>
        if q7.1 = 0 then (fj_Lo_arrive_91 v0 q7.2)
        else (Option.bind (mx_gr q7.2 v1 2 1) fun x13 =>
          Option.bind (mx_c q7.2 x13 1) fun a18 =>
          Option.bind (f_Li_arrivesAt a18  q7.2) fun q15 =>
          Option.bind (mx_p q15.2 v0 3 9 (.long q15.1)) fun m20 =>
          some m20)))
def f_Lo_arrive (a0 : Nat) (mem : mx_Mem) : Option (mx_Mem) :=
    Option.bind (mx_c mem (some a0) 3) fun a4 =>
    Option.bind (f_Lo_pickedOption a4  mem) fun q1 =>
    Option.bind (mx_p q1.2 (some a0) 3 11 (.int 0)) fun m6 =>
    Option.bind (mx_c m6 (some a0) 3) fun a11 =>
    Option.bind (f_Lo_isDirect a11  m6) fun q8 =>
    if q8.1 = 0 then (if q1.1 = none then (fj_Lo_arrive_55 (some a0) q1.1 q8.2)
      else (Option.bind (mx_gi q8.2 q1.1 2 0) fun x15 =>
        if x15 = 2 then (Option.bind (mx_gl q8.2 (some a0) 3 8) fun x18 =>
          Option.bind (mx_p q8.2 (some a0) 3 9 (.long ((x18 + 60)))) fun m20 =>
          some m20)
        else (fj_Lo_arrive_55 (some a0) q1.1 q8.2)))
    else (Option.bind (mx_gl q8.2 (some a0) 3 8) fun x14 =>
      Option.bind (mx_p q8.2 (some a0) 3 9 (.long x14)) fun m16 =>
      some m16)
def fl_LR_settle_2 (k0 : Option Nat → mx_Mem → Option (mx_Mem)) : Nat → Option Nat → Int32 → mx_Mem → Option (mx_Mem)
  | 0, _, _, _ => none
  | n + 1, v0, v1, mem => Option.bind (mx_gi mem v0 0 1) fun x1 =>
    if x1 ≤ v1 then (k0 v0 mem)
    else (Option.bind (mx_gr mem v0 0 0) fun x4 =>
      Option.bind (mx_ag mem x4 0 v1) fun x6 =>
      Option.bind (mx_c mem x6 1) fun a11 =>
      Option.bind (f_Li_forgetWaiting a11  mem) fun q8 =>
      fl_LR_settle_2 k0 n v0 (v1 + 1) q8)
def fl_LR_settle_27 (k0 : Option Nat → mx_Mem → Option (mx_Mem)) : Nat → Option Nat → Int32 → mx_Mem → Option (mx_Mem)
  | 0, _, _, _ => none
  | n + 1, v0, v1, mem => Option.bind (mx_gi mem v0 0 4) fun x1 =>
    if x1 ≤ v1 then (k0 v0 mem)
    else (Option.bind (mx_gr mem v0 0 3) fun x4 =>
      Option.bind (mx_ag mem x4 1 v1) fun x6 =>
      Option.bind (mx_c mem x6 3) fun a11 =>
      Option.bind (f_Lo_comeAndHold a11  mem) fun q8 =>
      fl_LR_settle_27 k0 n v0 (v1 + 1) q8)
def fl_LR_settle_52  : Nat → Option Nat → Int32 → mx_Mem → Option (mx_Mem)
  | 0, _, _, _ => none
  | n + 1, v0, v1, mem => Option.bind (mx_gi mem v0 0 4) fun x1 =>
    if x1 ≤ v1 then (some mem)
    else (Option.bind (mx_gr mem v0 0 2) fun x4 =>
      Option.bind (mx_ag mem x4 1 v1) fun x6 =>
      Option.bind (mx_c mem x6 3) fun a11 =>
      Option.bind (f_Lo_arrive a11  mem) fun q8 =>
      fl_LR_settle_52 n v0 (v1 + 1) q8)
def f_LR_settle (a0 : Nat) (mem : mx_Mem) : Option (mx_Mem) :=
    fl_LR_settle_2 (fun (v0 : Option Nat) (m1 : mx_Mem) => fl_LR_settle_27 (fun (v0 : Option Nat) (m2 : mx_Mem) => fl_LR_settle_52  5000 v0 0 m2) 5000 v0 0 m1) 5000 (some a0) 0 mem
def f_LR_line (a0 : Nat) (v1 : Int32) (v2 : Int32) (v3 : Int64) (v5 : Int64) (mem : mx_Mem) : Option (Int32 × mx_Mem) :=
    Option.bind (f_LR_isPlace v1 mem) fun q1 =>
    if q1.1 = 0 then (some ((-12), q1.2))
    else (Option.bind (f_LR_isPlace v2 q1.2) fun q5 =>
      if q5.1 = 0 then (some ((-12), q5.2))
      else (if v1 = v2 then (some ((-12), q5.2))
        else (Option.bind (f_LR_isWithin v3 0 10000 q5.2) fun q10 =>
          if q10.1 = 0 then (some ((-12), q10.2))
          else (Option.bind (f_LR_isWithin v5 0 10000 q10.2) fun q14 =>
            if q14.1 = 0 then (some ((-12), q14.2))
            else (if v3 < v5 then (Option.bind (mx_gi q14.2 (some a0) 0 1) fun x19 =>
                Option.bind (mx_gr q14.2 (some a0) 0 0) fun x21 =>
                Option.bind (mx_al q14.2 x21 0) fun x23 =>
                if x19 < x23 then (Option.bind (mx_gr q14.2 (some a0) 0 0) fun x26 =>
                  Option.bind (mx_gi q14.2 (some a0) 0 1) fun x28 =>
                  Option.bind (some (mx_n q14.2 (.inr (1, [.int 0, .int 0, .int 0, .long 0, .long 0, .long 0, .long 0, .long 0])))) fun m30 =>
                  Option.bind (mx_gi m30 (some a0) 0 1) fun x32 =>
                  Option.bind (f_Li_init ((q14.2).1) (x32 + 1) v1 v2 v3 v5 m30) fun q34 =>
                  Option.bind (mx_cn q34 (some (q14.2).1) 1) fun _ =>
                  Option.bind (mx_as q34 x26 0 x28 (some (q14.2).1)) fun m39 =>
                  Option.bind (mx_gi m39 (some a0) 0 1) fun x40 =>
                  Option.bind (mx_p m39 (some a0) 0 1 (.int ((x40 + 1)))) fun m42 =>
                  Option.bind (mx_c m42 (some a0) 0) fun a47 =>
                  Option.bind (f_LR_settle a47  m42) fun q44 =>
                  Option.bind (mx_gi q44 (some a0) 0 1) fun x49 =>
                  some (x49, q44))
                else (some ((-14), q14.2)))
              else (some ((-12), q14.2)))))))
def f_Mo_in (v0 : Int64) (v2 : Int64) (v4 : Int64) (mem : mx_Mem) : Option (Int32 × mx_Mem) :=
    if v0 < v2 then (some (0, mem))
    else (if v4 < v0 then (some (0, mem))
      else (some (1, mem)))
def f_Mo_line (a0 : Nat) (v1 : Int32) (v2 : Int32) (v3 : Int64) (v5 : Int64) (mem : mx_Mem) : Option (Int32 × mx_Mem) :=
    Option.bind (mx_p mem (some a0) 4 0 (.int 0)) fun m1 =>
    Option.bind (f_Mo_in v1.toInt64 0 9 m1) fun q3 =>
    if q3.1 = 0 then (some ((-12), q3.2))
    else (Option.bind (f_Mo_in v2.toInt64 0 9 q3.2) fun q7 =>
      if q7.1 = 0 then (some ((-12), q7.2))
      else (if v1 = v2 then (some ((-12), q7.2))
        else (Option.bind (f_Mo_in v3 0 10000 q7.2) fun q12 =>
          if q12.1 = 0 then (some ((-12), q12.2))
          else (Option.bind (f_Mo_in v5 0 10000 q12.2) fun q16 =>
            if q16.1 = 0 then (some ((-12), q16.2))
            else (if v3 < v5 then (Option.bind (mx_gi q16.2 (some a0) 4 1) fun x21 =>
                if x21 = 12 then (some ((-14), q16.2))
                else (Option.bind (mx_gi q16.2 (some a0) 4 1) fun x24 =>
                  Option.bind (mx_p q16.2 (some a0) 4 1 (.int ((x24 + 1)))) fun m26 =>
                  Option.bind (mx_gr m26 (some a0) 4 2) fun x28 =>
                  Option.bind (mx_gi m26 (some a0) 4 1) fun x30 =>
                  Option.bind (mx_asi m26 x28 3 x30 v1) fun m33 =>
                  Option.bind (mx_gr m33 (some a0) 4 3) fun x34 =>
                  Option.bind (mx_gi m33 (some a0) 4 1) fun x36 =>
                  Option.bind (mx_asi m33 x34 3 x36 v2) fun m39 =>
                  Option.bind (mx_gr m39 (some a0) 4 4) fun x40 =>
                  Option.bind (mx_gi m39 (some a0) 4 1) fun x42 =>
                  Option.bind (mx_asl m39 x40 4 x42 v3) fun m45 =>
                  Option.bind (mx_gr m45 (some a0) 4 5) fun x46 =>
                  Option.bind (mx_gi m45 (some a0) 4 1) fun x48 =>
                  Option.bind (mx_asl m45 x46 4 x48 v5) fun m51 =>
                  Option.bind (mx_gi m51 (some a0) 4 1) fun x52 =>
                  some (x52, m51)))
              else (some ((-12), q16.2)))))))
def f_LR_findLine (a0 : Nat) (v1 : Int32) (mem : mx_Mem) : Option (Option Nat × mx_Mem) :=
    if v1 < 1 then (some (none, mem))
    else (Option.bind (mx_gi mem (some a0) 0 1) fun x2 =>
      if x2 < v1 then (some (none, mem))
      else (Option.bind (mx_gr mem (some a0) 0 0) fun x5 =>
        Option.bind (mx_ag mem x5 0 (v1 - 1)) fun x7 =>
        some (x7, mem)))
def f_Lo_init (a0 : Nat) (v1 : Option Nat) (v2 : Int32) (v3 : Int64) (v5 : Int32) (mem : mx_Mem) : Option (mx_Mem) :=
    Option.bind (some (mx_n mem (.inl (2, 4, .inr (.inr (.inr (.inr (fun _ => none)))))))) fun m1 =>
    Option.bind (mx_p m1 (some a0) 3 4 (va_rf (some mem.1))) fun m3 =>
    Option.bind (mx_p m3 (some a0) 3 0 (va_rf v1)) fun m5 =>
    Option.bind (mx_p m5 (some a0) 3 1 (.int v2)) fun m7 =>
    Option.bind (mx_p m7 (some a0) 3 2 (.long v3)) fun m9 =>
    Option.bind (mx_p m9 (some a0) 3 3 (.int v5)) fun m11 =>
    Option.bind (mx_p m11 (some a0) 3 5 (.int 0)) fun m13 =>
    Option.bind (mx_p m13 (some a0) 3 6 (.int (-1))) fun m15 =>
    Option.bind (mx_p m15 (some a0) 3 7 (.int (-1))) fun m17 =>
    some m17
def fl_LR_fileByLeaving_5  : Nat → Option Nat → Option Nat → Int32 → mx_Mem → Option (mx_Mem)
  | 0, _, _, _, _ => none
  | n + 1, v0, v1, v2, mem => if v2 ≤ 0 then (Option.bind (mx_gr mem v0 0 3) fun x2 =>
      Option.bind (mx_cn mem v1 3) fun _ =>
      Option.bind (mx_as mem x2 1 v2 v1) fun m6 =>
      some m6)
    else (Option.bind (mx_gr mem v0 0 3) fun x2 =>
      Option.bind (mx_ag mem x2 1 (v2 - 1)) fun x4 =>
      Option.bind (mx_gr mem x4 3 0) fun x6 =>
      Option.bind (mx_gl mem x6 1 3) fun x8 =>
      Option.bind (mx_gr mem v1 3 0) fun x10 =>
      Option.bind (mx_gl mem x10 1 3) fun x12 =>
      if x8 ≤ x12 then (Option.bind (mx_gr mem v0 0 3) fun x15 =>
        Option.bind (mx_cn mem v1 3) fun _ =>
        Option.bind (mx_as mem x15 1 v2 v1) fun m19 =>
        some m19)
      else (Option.bind (mx_gr mem v0 0 3) fun x15 =>
        Option.bind (mx_gr mem v0 0 3) fun x17 =>
        Option.bind (mx_ag mem x17 1 (v2 - 1)) fun x19 =>
        Option.bind (mx_cn mem x19 3) fun _ =>
        Option.bind (mx_as mem x15 1 v2 x19) fun m23 =>
        fl_LR_fileByLeaving_5 n v0 v1 (v2 + (-1)) m23))
def f_LR_fileByLeaving (a0 : Nat) (v1 : Option Nat) (mem : mx_Mem) : Option (mx_Mem) :=
    Option.bind (mx_gi mem (some a0) 0 4) fun x1 =>
    fl_LR_fileByLeaving_5  5000 (some a0) v1 x1 mem
def f_LR_load (a0 : Nat) (v1 : Int32) (v2 : Int32) (v3 : Int64) (v5 : Int32) (mem : mx_Mem) : Option (Int32 × mx_Mem) :=
    Option.bind (mx_c mem (some a0) 0) fun a4 =>
    Option.bind (f_LR_findLine a4 v1 mem) fun q1 =>
    if q1.1 = none then (some ((-11), q1.2))
    else (Option.bind (f_LR_isPlace v2 q1.2) fun q7 =>
      if q7.1 = 0 then (some ((-12), q7.2))
      else (Option.bind (f_LR_isWithin v3 0 20000 q7.2) fun q11 =>
        if q11.1 = 0 then (some ((-12), q11.2))
        else (Option.bind (f_LR_isWithin v5.toInt64 1 100 q11.2) fun q15 =>
          if q15.1 = 0 then (some ((-12), q15.2))
          else (Option.bind (mx_gi q15.2 (some a0) 0 4) fun x19 =>
            Option.bind (mx_gr q15.2 (some a0) 0 2) fun x21 =>
            Option.bind (mx_al q15.2 x21 1) fun x23 =>
            if x23 ≤ x19 then (some ((-14), q15.2))
            else (Option.bind (mx_gi q15.2 (some a0) 0 4) fun x26 =>
              Option.bind (mx_gr q15.2 (some a0) 0 3) fun x28 =>
              Option.bind (mx_al q15.2 x28 1) fun x30 =>
              if x26 < x30 then (Option.bind (some (mx_n q15.2 (.inr (3, [.null, .int 0, .long 0, .int 0, .null, .int 0, .int 0, .int 0, .long 0, .long 0, .long 0, .int 0])))) fun m33 =>
                Option.bind (f_Lo_init ((q15.2).1) q1.1 v2 v3 v5 m33) fun q35 =>
                Option.bind (mx_gr q35 (some a0) 0 2) fun x38 =>
                Option.bind (mx_gi q35 (some a0) 0 4) fun x40 =>
                Option.bind (mx_cn q35 (some (q15.2).1) 3) fun _ =>
                Option.bind (mx_as q35 x38 1 x40 (some (q15.2).1)) fun m44 =>
                Option.bind (mx_c m44 (some a0) 0) fun a48 =>
                Option.bind (f_LR_fileByLeaving a48 (some (q15.2).1) m44) fun q45 =>
                Option.bind (mx_gi q45 (some a0) 0 4) fun x50 =>
                Option.bind (mx_p q45 (some a0) 0 4 (.int ((x50 + 1)))) fun m52 =>
                Option.bind (mx_c m52 (some a0) 0) fun a57 =>
                Option.bind (f_LR_settle a57  m52) fun q54 =>
                Option.bind (mx_gi q54 (some a0) 0 4) fun x59 =>
                some (x59, q54))
              else (some ((-14), q15.2)))))))
def f_Mo_isLine (a0 : Nat) (v1 : Int32) (mem : mx_Mem) : Option (Int32 × mx_Mem) :=
    if v1 < 1 then (some (0, mem))
    else (Option.bind (mx_gi mem (some a0) 4 1) fun x2 =>
      if x2 < v1 then (some (0, mem))
      else (some (1, mem)))
def f_Mo_load (a0 : Nat) (v1 : Int32) (v2 : Int32) (v3 : Int64) (v5 : Int32) (mem : mx_Mem) : Option (Int32 × mx_Mem) :=
    Option.bind (mx_p mem (some a0) 4 0 (.int 0)) fun m1 =>
    Option.bind (mx_c m1 (some a0) 4) fun a6 =>
    Option.bind (f_Mo_isLine a6 v1 m1) fun q3 =>
    if q3.1 = 0 then (some ((-11), q3.2))
    else (Option.bind (f_Mo_in v2.toInt64 0 9 q3.2) fun q9 =>
      if q9.1 = 0 then (some ((-12), q9.2))
      else (Option.bind (f_Mo_in v3 0 20000 q9.2) fun q13 =>
        if q13.1 = 0 then (some ((-12), q13.2))
        else (Option.bind (f_Mo_in v5.toInt64 1 100 q13.2) fun q17 =>
          if q17.1 = 0 then (some ((-12), q17.2))
          else (Option.bind (mx_gi q17.2 (some a0) 4 9) fun x21 =>
            if x21 = 6 then (some ((-14), q17.2))
            else (Option.bind (mx_gi q17.2 (some a0) 4 9) fun x24 =>
              Option.bind (mx_p q17.2 (some a0) 4 9 (.int ((x24 + 1)))) fun m26 =>
              Option.bind (mx_gr m26 (some a0) 4 10) fun x28 =>
              Option.bind (mx_gi m26 (some a0) 4 9) fun x30 =>
              Option.bind (mx_asi m26 x28 3 x30 v1) fun m33 =>
              Option.bind (mx_gr m33 (some a0) 4 11) fun x34 =>
              Option.bind (mx_gi m33 (some a0) 4 9) fun x36 =>
              Option.bind (mx_asi m33 x34 3 x36 v2) fun m39 =>
              Option.bind (mx_gr m39 (some a0) 4 12) fun x40 =>
              Option.bind (mx_gi m39 (some a0) 4 9) fun x42 =>
              Option.bind (mx_asl m39 x40 4 x42 v3) fun m45 =>
              Option.bind (mx_gr m45 (some a0) 4 13) fun x46 =>
              Option.bind (mx_gi m45 (some a0) 4 9) fun x48 =>
              Option.bind (mx_asi m45 x46 3 x48 v5) fun m51 =>
              Option.bind (mx_gi m51 (some a0) 4 9) fun x52 =>
              some (x52, m51))))))
def f_LR_findLoad (a0 : Nat) (v1 : Int32) (mem : mx_Mem) : Option (Option Nat × mx_Mem) :=
    if v1 < 1 then (some (none, mem))
    else (Option.bind (mx_gi mem (some a0) 0 4) fun x2 =>
      if x2 < v1 then (some (none, mem))
      else (Option.bind (mx_gr mem (some a0) 0 2) fun x5 =>
        Option.bind (mx_ag mem x5 1 (v1 - 1)) fun x7 =>
        some (x7, mem)))
def f_Lo_canGoOnBy (a0 : Nat) (v1 : Option Nat) (mem : mx_Mem) : Option (Int32 × mx_Mem) :=
    Option.bind (mx_gi mem v1 1 1) fun x1 =>
    Option.bind (mx_gr mem (some a0) 3 0) fun x3 =>
    Option.bind (mx_gi mem x3 1 2) fun x5 =>
    if x1 = x5 then (Option.bind (mx_gi mem v1 1 2) fun x8 =>
      Option.bind (mx_gi mem (some a0) 3 1) fun x10 =>
      if x8 = x10 then (Option.bind (mx_gl mem v1 1 3) fun x13 =>
        Option.bind (mx_gr mem (some a0) 3 0) fun x15 =>
        Option.bind (mx_gl mem x15 1 3) fun x17 =>
        if x13 ≤ x17 then (some (0, mem))
        else (some (1, mem)))
      else (some (0, mem)))
    else (some (0, mem))
def f_Lo_hasRoom (a0 : Nat) (mem : mx_Mem) : Option (Int32 × mx_Mem) :=
    Option.bind (mx_gi mem (some a0) 3 5) fun x1 =>
    Option.bind (mx_gr mem (some a0) 3 4) fun x3 =>
    Option.bind (mx_al mem x3 2) fun x5 =>
    if x5 ≤ x1 then (some (0, mem))
    else (some (1, mem))
def f_Op_init (a0 : Nat) (v1 : Int32) (v2 : Option Nat) (v3 : Int64) (mem : mx_Mem) : Option (mx_Mem) :=
    Option.bind (mx_p mem (some a0) 2 0 (.int v1)) fun m1 =>
    Option.bind (mx_p m1 (some a0) 2 1 (va_rf v2)) fun m3 =>
    Option.bind (mx_p m3 (some a0) 2 2 (.long v3)) fun m5 =>
    some m5
def f_Lo_addOption (a0 : Nat) (v1 : Option Nat) (mem : mx_Mem) : Option (Int32 × mx_Mem) :=
    Option.bind (mx_c mem (some a0) 3) fun a4 =>
    Option.bind (f_Lo_hasRoom a4  mem) fun q1 =>
    if q1.1 = 0 then (some ((-1), q1.2))
    else (Option.bind (mx_gr q1.2 (some a0) 3 4) fun x7 =>
      Option.bind (mx_gi q1.2 (some a0) 3 5) fun x9 =>
      Option.bind (mx_cn q1.2 v1 2) fun _ =>
      Option.bind (mx_as q1.2 x7 2 x9 v1) fun m13 =>
      Option.bind (mx_gi m13 (some a0) 3 5) fun x14 =>
      Option.bind (mx_p m13 (some a0) 3 5 (.int ((x14 + 1)))) fun m16 =>
      Option.bind (mx_gi m16 (some a0) 3 6) fun x18 =>
      if 0 ≤ x18 then (Option.bind (mx_gi m16 (some a0) 3 5) fun x21 =>
        some ((x21 - 1), m16))
      else (Option.bind (mx_p m16 (some a0) 3 6 (.int 0)) fun m21 =>
        Option.bind (mx_gi m21 (some a0) 3 5) fun x23 =>
        some ((x23 - 1), m21)))
def fj_LR_option_94 (v0 : Option Nat) (v2 : Int32) (v4 : Int64) (v6 : Option Nat) (v7 : Option Nat) (mem : mx_Mem) : Option (Int32 × mx_Mem) :=
    Option.bind (mx_c mem v6 3) fun a4 =>
    Option.bind (f_Lo_hasRoom a4  mem) fun q1 =>
    if q1.1 = 0 then (some ((-14), q1.2))
    else (Option.bind (some (mx_n q1.2 (.inr (2, [.int 0, .null, .long 0])))) fun m7 =>
      Option.bind (f_Op_init ((q1.2).1) v2 v7 v4 m7) fun q9 =>
      Option.bind (mx_c q9 v6 3) fun a15 =>
      Option.bind (f_Lo_addOption a15 (some (q1.2).1) q9) fun q12 =>
      Option.bind (mx_c q12.2 v0 0) fun a20 =>
      Option.bind (f_LR_settle a20  q12.2) fun q17 =>
      some (q12.1, q17))
def fj_LR_option_41 (v0 : Option Nat) (v2 : Int32) (v4 : Int64) (v6 : Option Nat) (v7 : Option Nat) (mem : mx_Mem) : Option (Int32 × mx_Mem) :=
    Option.bind (f_LR_isWithin v2.toInt64 0 2 mem) fun q1 =>
    if q1.1 = 0 then (some ((-12), q1.2))
    else (Option.bind (f_LR_isWithin v4 0 10000 q1.2) fun q5 =>
      if q5.1 = 0 then (some ((-12), q5.2))
      else (Option.bind (mx_c q5.2 v6 3) fun a12 =>
        Option.bind (f_Lo_isDirect a12  q5.2) fun q9 =>
        if q9.1 = 0 then (if v7 = none then (fj_LR_option_94 v0 v2 v4 v6 v7 q9.2)
          else (Option.bind (mx_c q9.2 v6 3) fun a19 =>
            Option.bind (f_Lo_canGoOnBy a19 v7 q9.2) fun q16 =>
            if q16.1 = 0 then (some ((-13), q16.2))
            else (fj_LR_option_94 v0 v2 v4 v6 v7 q16.2)))
        else (some ((-13), q9.2))))
def f_LR_option (a0 : Nat) (v1 : Int32) (v2 : Int32) (v3 : Int32) (v4 : Int64) (mem : mx_Mem) : Option (Int32 × mx_Mem) :=
    Option.bind (mx_c mem (some a0) 0) fun a4 =>
    Option.bind (f_LR_findLoad a4 v1 mem) fun q1 =>
    if v2 = 2 then (if q1.1 = none then (some ((-11), q1.2))
      else (if v2 = 2 then (fj_LR_option_41 (some a0) v2 v4 q1.1 none q1.2)
        else (if (none : Option Nat) = none then (some ((-11), q1.2))
          else (fj_LR_option_41 (some a0) v2 v4 q1.1 none q1.2))))
    else (Option.bind (mx_c q1.2 (some a0) 0) fun a10 =>
      Option.bind (f_LR_findLine a10 v3 q1.2) fun q7 =>
      if q1.1 = none then (some ((-11), q7.2))
      else (if v2 = 2 then (fj_LR_option_41 (some a0) v2 v4 q1.1 q7.1 q7.2)
        else (if q7.1 = none then (some ((-11), q7.2))
          else (fj_LR_option_41 (some a0) v2 v4 q1.1 q7.1 q7.2))))
def f_Mo_isLoad (a0 : Nat) (v1 : Int32) (mem : mx_Mem) : Option (Int32 × mx_Mem) :=
    if v1 < 1 then (some (0, mem))
    else (Option.bind (mx_gi mem (some a0) 4 9) fun x2 =>
      if x2 < v1 then (some (0, mem))
      else (some (1, mem)))
def f_Mo_isDirect (a0 : Nat) (v1 : Int32) (mem : mx_Mem) : Option (Int32 × mx_Mem) :=
    Option.bind (mx_gr mem (some a0) 4 3) fun x1 =>
    Option.bind (mx_gr mem (some a0) 4 10) fun x3 =>
    Option.bind (mx_agi mem x3 3 v1) fun x5 =>
    Option.bind (mx_agi mem x1 3 x5) fun x7 =>
    Option.bind (mx_gr mem (some a0) 4 11) fun x9 =>
    Option.bind (mx_agi mem x9 3 v1) fun x11 =>
    if x7 = x11 then (some (1, mem))
    else (some (0, mem))
def fj_Mo_option_128 (v0 : Option Nat) (v1 : Int32) (v2 : Int32) (v3 : Int32) (v4 : Int64) (mem : mx_Mem) : Option (Int32 × mx_Mem) :=
    Option.bind (mx_gr mem v0 4 14) fun x1 =>
    Option.bind (mx_agi mem x1 3 v1) fun x3 =>
    if x3 = 4 then (some ((-14), mem))
    else (Option.bind (mx_gr mem v0 4 14) fun x6 =>
      Option.bind (mx_agi mem x6 3 v1) fun x8 =>
      Option.bind (mx_gr mem v0 4 16) fun x10 =>
      Option.bind (mx_asi mem x10 3 ((4 * v1) + x8) v2) fun m13 =>
      Option.bind (mx_gr m13 v0 4 17) fun x14 =>
      if v2 = 2 then (Option.bind (mx_asi m13 x14 3 ((4 * v1) + x8) 0) fun m18 =>
        Option.bind (mx_gr m18 v0 4 18) fun x19 =>
        Option.bind (mx_asl m18 x19 4 ((4 * v1) + x8) v4) fun m22 =>
        Option.bind (mx_gr m22 v0 4 14) fun x23 =>
        Option.bind (mx_agi m22 x23 3 v1) fun x25 =>
        Option.bind (mx_asi m22 x23 3 v1 (x25 + 1)) fun m28 =>
        Option.bind (mx_gr m28 v0 4 14) fun x29 =>
        Option.bind (mx_agi m28 x29 3 v1) fun x31 =>
        some ((x31 - 1), m28))
      else (Option.bind (mx_asi m13 x14 3 ((4 * v1) + x8) v3) fun m18 =>
        Option.bind (mx_gr m18 v0 4 18) fun x19 =>
        Option.bind (mx_asl m18 x19 4 ((4 * v1) + x8) v4) fun m22 =>
        Option.bind (mx_gr m22 v0 4 14) fun x23 =>
        Option.bind (mx_agi m22 x23 3 v1) fun x25 =>
        Option.bind (mx_asi m22 x23 3 v1 (x25 + 1)) fun m28 =>
        Option.bind (mx_gr m28 v0 4 14) fun x29 =>
        Option.bind (mx_agi m28 x29 3 v1) fun x31 =>
        some ((x31 - 1), m28)))
def fj_Mo_option_29 (v0 : Option Nat) (v1 : Int32) (v2 : Int32) (v3 : Int32) (v4 : Int64) (mem : mx_Mem) : Option (Int32 × mx_Mem) :=
    Option.bind (f_Mo_in v2.toInt64 0 2 mem) fun q1 =>
    if q1.1 = 0 then (some ((-12), q1.2))
    else (Option.bind (f_Mo_in v4 0 10000 q1.2) fun q5 =>
      if q5.1 = 0 then (some ((-12), q5.2))
      else (Option.bind (mx_gr q5.2 v0 4 10) fun x9 =>
        Option.bind (mx_agi q5.2 x9 3 v1) fun x11 =>
        Option.bind (mx_c q5.2 v0 4) fun a16 =>
        Option.bind (f_Mo_isDirect a16 v1 q5.2) fun q13 =>
        if q13.1 = 0 then (if v2 = 2 then (fj_Mo_option_128 v0 v1 v2 v3 v4 q13.2)
          else (Option.bind (mx_gr q13.2 v0 4 2) fun x20 =>
            Option.bind (mx_agi q13.2 x20 3 v3) fun x22 =>
            Option.bind (mx_gr q13.2 v0 4 3) fun x24 =>
            Option.bind (mx_agi q13.2 x24 3 x11) fun x26 =>
            if x22 = x26 then (Option.bind (mx_gr q13.2 v0 4 3) fun x29 =>
              Option.bind (mx_agi q13.2 x29 3 v3) fun x31 =>
              Option.bind (mx_gr q13.2 v0 4 11) fun x33 =>
              Option.bind (mx_agi q13.2 x33 3 v1) fun x35 =>
              if x31 = x35 then (Option.bind (mx_gr q13.2 v0 4 4) fun x38 =>
                Option.bind (mx_agl q13.2 x38 4 v3) fun x40 =>
                Option.bind (mx_gr q13.2 v0 4 4) fun x42 =>
                Option.bind (mx_agl q13.2 x42 4 x11) fun x44 =>
                if x44 < x40 then (fj_Mo_option_128 v0 v1 v2 v3 v4 q13.2)
                else (some ((-13), q13.2)))
              else (some ((-13), q13.2)))
            else (some ((-13), q13.2))))
        else (some ((-13), q13.2))))
def f_Mo_option (a0 : Nat) (v1 : Int32) (v2 : Int32) (v3 : Int32) (v4 : Int64) (mem : mx_Mem) : Option (Int32 × mx_Mem) :=
    Option.bind (mx_p mem (some a0) 4 0 (.int 0)) fun m1 =>
    Option.bind (mx_c m1 (some a0) 4) fun a6 =>
    Option.bind (f_Mo_isLoad a6 v1 m1) fun q3 =>
    if q3.1 = 0 then (some ((-11), q3.2))
    else (if v2 = 2 then (fj_Mo_option_29 (some a0) v1 v2 v3 v4 q3.2)
      else (Option.bind (mx_c q3.2 (some a0) 4) fun a13 =>
        Option.bind (f_Mo_isLine a13 v3 q3.2) fun q10 =>
        if q10.1 = 0 then (some ((-11), q10.2))
        else (fj_Mo_option_29 (some a0) v1 v2 v3 v4 q10.2)))
def f_LR_waits (a0 : Nat) (v1 : Int32) (v2 : Int64) (mem : mx_Mem) : Option (Int32 × mx_Mem) :=
    Option.bind (mx_c mem (some a0) 0) fun a4 =>
    Option.bind (f_LR_findLine a4 v1 mem) fun q1 =>
    if q1.1 = none then (some ((-11), q1.2))
    else (Option.bind (f_LR_isWithin v2 0 600 q1.2) fun q7 =>
      if q7.1 = 0 then (some ((-12), q7.2))
      else (Option.bind (mx_gl q7.2 q1.1 1 6) fun x11 =>
        Option.bind (mx_p q7.2 q1.1 1 6 (.long v2)) fun m13 =>
        Option.bind (mx_c m13 (some a0) 0) fun a18 =>
        Option.bind (f_LR_settle a18  m13) fun q15 =>
        some (x11.toInt32, q15)))
def f_Mo_waits (a0 : Nat) (v1 : Int32) (v2 : Int64) (mem : mx_Mem) : Option (Int32 × mx_Mem) :=
    Option.bind (mx_p mem (some a0) 4 0 (.int 0)) fun m1 =>
    Option.bind (mx_c m1 (some a0) 4) fun a6 =>
    Option.bind (f_Mo_isLine a6 v1 m1) fun q3 =>
    if q3.1 = 0 then (some ((-11), q3.2))
    else (Option.bind (f_Mo_in v2 0 600 q3.2) fun q9 =>
      if q9.1 = 0 then (some ((-12), q9.2))
      else (Option.bind (mx_gr q9.2 (some a0) 4 7) fun x13 =>
        Option.bind (mx_agl q9.2 x13 4 v1) fun x15 =>
        Option.bind (mx_gr q9.2 (some a0) 4 7) fun x17 =>
        Option.bind (mx_asl q9.2 x17 4 v1 v2) fun m20 =>
        some (x15.toInt32, m20)))
def f_Lo_minutesBehind (a0 : Nat) (mem : mx_Mem) : Option (Int64 × mx_Mem) :=
    Option.bind (mx_gl mem (some a0) 3 9) fun x1 =>
    Option.bind (mx_gl mem (some a0) 3 2) fun x3 =>
    some ((if (x1 - x3) < 0 then 0 else (x1 - x3)), mem)
def fl_LR_countFailing_4  : Nat → Option Nat → Int32 → Int32 → mx_Mem → Option (Int32 × mx_Mem)
  | 0, _, _, _, _ => none
  | n + 1, v0, v1, v2, mem => Option.bind (mx_gi mem v0 0 4) fun x1 =>
    if x1 ≤ v2 then (some (v1, mem))
    else (Option.bind (mx_gr mem v0 0 2) fun x4 =>
      Option.bind (mx_ag mem x4 1 v2) fun x6 =>
      Option.bind (mx_gi mem x6 3 11) fun x8 =>
      if x8 = 0 then (Option.bind (mx_gr mem v0 0 2) fun x11 =>
        Option.bind (mx_ag mem x11 1 v2) fun x13 =>
        Option.bind (mx_c mem x13 3) fun a18 =>
        Option.bind (f_Lo_minutesBehind a18  mem) fun q15 =>
        if q15.1 ≤ 0 then (fl_LR_countFailing_4 n v0 v1 (v2 + 1) q15.2)
        else (fl_LR_countFailing_4 n v0 (v1 + 1) (v2 + 1) q15.2))
      else (fl_LR_countFailing_4 n v0 (v1 + 1) (v2 + 1) mem))
def f_LR_countFailing (a0 : Nat) (mem : mx_Mem) : Option (Int32 × mx_Mem) :=
    fl_LR_countFailing_4  5000 (some a0) 0 0 mem
def f_LR_late (a0 : Nat) (v1 : Int32) (v2 : Int64) (mem : mx_Mem) : Option (Int32 × mx_Mem) :=
    Option.bind (mx_c mem (some a0) 0) fun a4 =>
    Option.bind (f_LR_findLine a4 v1 mem) fun q1 =>
    if q1.1 = none then (some ((-11), q1.2))
    else (Option.bind (f_LR_isWithin v2 0 2000 q1.2) fun q7 =>
      if q7.1 = 0 then (some ((-12), q7.2))
      else (Option.bind (mx_p q7.2 q1.1 1 5 (.long v2)) fun m11 =>
        Option.bind (mx_c m11 (some a0) 0) fun a16 =>
        Option.bind (f_LR_settle a16  m11) fun q13 =>
        Option.bind (mx_c q13 (some a0) 0) fun a21 =>
        Option.bind (f_LR_countFailing a21  q13) fun q18 =>
        some (q18.1, q18.2)))
def f_Mo_there (a0 : Nat) (v1 : Int32) (mem : mx_Mem) : Option (Int64 × mx_Mem) :=
    Option.bind (mx_gr mem (some a0) 4 5) fun x1 =>
    Option.bind (mx_agl mem x1 4 v1) fun x3 =>
    Option.bind (mx_gr mem (some a0) 4 8) fun x5 =>
    Option.bind (mx_agl mem x5 4 v1) fun x7 =>
    Option.bind (mx_gr mem (some a0) 4 4) fun x9 =>
    Option.bind (mx_agl mem x9 4 v1) fun x11 =>
    some (((x3 + x7) - x11), mem)
def fl_Mo_depart_24  : Nat → Option Nat → Int32 → Int64 → Int32 → mx_Mem → Option (mx_Mem)
  | 0, _, _, _, _, _ => none
  | n + 1, v0, v1, v2, v4, mem => Option.bind (mx_gi mem v0 4 9) fun x1 =>
    if x1 < v4 then (some mem)
    else (Option.bind (mx_gr mem v0 4 15) fun x4 =>
      Option.bind (mx_agi mem x4 3 v4) fun x6 =>
      Option.bind (mx_gr mem v0 4 14) fun x8 =>
      Option.bind (mx_agi mem x8 3 v4) fun x10 =>
      if x10 ≤ 0 then (Option.bind (mx_gr mem v0 4 8) fun x14 =>
        Option.bind (mx_gr mem v0 4 8) fun x17 =>
        Option.bind (mx_agl mem x17 4 v1) fun x19 =>
        Option.bind (mx_asl mem x14 4 v1 x19) fun m22 =>
        fl_Mo_depart_24 n v0 v1 v2 (v4 + 1) m22)
      else (Option.bind (mx_gr mem v0 4 16) fun x13 =>
        Option.bind (mx_agi mem x13 3 ((4 * v4) + x6)) fun x15 =>
        if x15 = 1 then (Option.bind (mx_gr mem v0 4 17) fun x18 =>
          Option.bind (mx_agi mem x18 3 ((4 * v4) + x6)) fun x20 =>
          if x20 = v1 then (Option.bind (mx_gr mem v0 4 10) fun x24 =>
            Option.bind (mx_agi mem x24 3 v4) fun x26 =>
            Option.bind (mx_c mem v0 4) fun a31 =>
            Option.bind (f_Mo_there a31 x26 mem) fun q28 =>
            Option.bind (mx_gr q28.2 v0 4 8) fun x33 =>
            Option.bind (mx_gr q28.2 v0 4 7) fun x36 =>
            Option.bind (mx_agl q28.2 x36 4 v1) fun x38 =>
            if (v2 + x38) < (q28.1 + 10) then (Option.bind (mx_gr q28.2 v0 4 8) fun x41 =>
              Option.bind (mx_agl q28.2 x41 4 v1) fun x43 =>
              Option.bind (mx_asl q28.2 x33 4 v1 x43) fun m46 =>
              fl_Mo_depart_24 n v0 v1 v2 (v4 + 1) m46)
            else (Option.bind (mx_gr q28.2 v0 4 8) fun x41 =>
              Option.bind (mx_agl q28.2 x41 4 v1) fun x43 =>
              if (q28.1 + 10) ≤ x43 then (Option.bind (mx_gr q28.2 v0 4 8) fun x46 =>
                Option.bind (mx_agl q28.2 x46 4 v1) fun x48 =>
                Option.bind (mx_asl q28.2 x33 4 v1 x48) fun m51 =>
                fl_Mo_depart_24 n v0 v1 v2 (v4 + 1) m51)
              else (Option.bind (mx_asl q28.2 x33 4 v1 (q28.1 + 10)) fun m47 =>
                fl_Mo_depart_24 n v0 v1 v2 (v4 + 1) m47)))
          else (Option.bind (mx_gr mem v0 4 8) fun x24 =>
            Option.bind (mx_gr mem v0 4 8) fun x27 =>
            Option.bind (mx_agl mem x27 4 v1) fun x29 =>
            Option.bind (mx_asl mem x24 4 v1 x29) fun m32 =>
            fl_Mo_depart_24 n v0 v1 v2 (v4 + 1) m32))
        else (Option.bind (mx_gr mem v0 4 8) fun x19 =>
          Option.bind (mx_gr mem v0 4 8) fun x22 =>
          Option.bind (mx_agl mem x22 4 v1) fun x24 =>
          Option.bind (mx_asl mem x19 4 v1 x24) fun m27 =>
          fl_Mo_depart_24 n v0 v1 v2 (v4 + 1) m27)))
def f_Mo_depart (a0 : Nat) (v1 : Int32) (mem : mx_Mem) : Option (mx_Mem) :=
    Option.bind (mx_gr mem (some a0) 4 4) fun x1 =>
    Option.bind (mx_agl mem x1 4 v1) fun x3 =>
    Option.bind (mx_gr mem (some a0) 4 6) fun x5 =>
    Option.bind (mx_agl mem x5 4 v1) fun x7 =>
    Option.bind (mx_gr mem (some a0) 4 8) fun x9 =>
    Option.bind (mx_asl mem x9 4 v1 (x3 + x7)) fun m12 =>
    fl_Mo_depart_24  5000 (some a0) v1 (x3 + x7) 1 m12
def fj_Mo_arrive_112 (v0 : Option Nat) (v1 : Int32) (v2 : Int64) (v4 : Int32) (mem : mx_Mem) : Option (mx_Mem) :=
    Option.bind (mx_gr mem v0 4 20) fun x1 =>
    Option.bind (mx_asi mem x1 5 v1 1) fun m5 =>
    Option.bind (mx_gr m5 v0 4 19) fun x6 =>
    Option.bind (mx_asl m5 x6 4 v1 (v2 + 1440)) fun m10 =>
    some m10
def fj_Mo_arrive_78 (v0 : Option Nat) (v1 : Int32) (v2 : Int64) (v4 : Int32) (mem : mx_Mem) : Option (mx_Mem) :=
    Option.bind (mx_gr mem v0 4 14) fun x1 =>
    Option.bind (mx_agi mem x1 3 v1) fun x3 =>
    if x3 ≤ 0 then (fj_Mo_arrive_112 v0 v1 v2 v4 mem)
    else (Option.bind (mx_gr mem v0 4 8) fun x6 =>
      Option.bind (mx_gr mem v0 4 17) fun x8 =>
      Option.bind (mx_agi mem x8 3 v4) fun x10 =>
      Option.bind (mx_agl mem x6 4 x10) fun x12 =>
      if x12 < (v2 + 10) then (fj_Mo_arrive_112 v0 v1 v2 v4 mem)
      else (Option.bind (mx_gr mem v0 4 20) fun x15 =>
        Option.bind (mx_asi mem x15 5 v1 0) fun m19 =>
        Option.bind (mx_gr m19 v0 4 19) fun x20 =>
        Option.bind (mx_gr m19 v0 4 17) fun x23 =>
        Option.bind (mx_agi m19 x23 3 v4) fun x25 =>
        Option.bind (mx_c m19 v0 4) fun a30 =>
        Option.bind (f_Mo_there a30 x25 m19) fun q27 =>
        Option.bind (mx_asl q27.2 x20 4 v1 q27.1) fun m33 =>
        some m33))
def f_Mo_arrive (a0 : Nat) (v1 : Int32) (mem : mx_Mem) : Option (mx_Mem) :=
    Option.bind (mx_gr mem (some a0) 4 10) fun x1 =>
    Option.bind (mx_agi mem x1 3 v1) fun x3 =>
    Option.bind (mx_c mem (some a0) 4) fun a8 =>
    Option.bind (f_Mo_there a8 x3 mem) fun q5 =>
    Option.bind (mx_gr q5.2 (some a0) 4 20) fun x10 =>
    Option.bind (mx_asi q5.2 x10 5 v1 0) fun m13 =>
    Option.bind (mx_c m13 (some a0) 4) fun a17 =>
    Option.bind (f_Mo_isDirect a17 v1 m13) fun q14 =>
    if q14.1 = 0 then (Option.bind (mx_gr q14.2 (some a0) 4 15) fun x20 =>
      Option.bind (mx_agi q14.2 x20 3 v1) fun x22 =>
      Option.bind (mx_gr q14.2 (some a0) 4 14) fun x24 =>
      Option.bind (mx_agi q14.2 x24 3 v1) fun x26 =>
      if x26 ≤ 0 then (fj_Mo_arrive_78 (some a0) v1 q5.1 ((4 * v1) + x22) q14.2)
      else (Option.bind (mx_gr q14.2 (some a0) 4 16) fun x29 =>
        Option.bind (mx_agi q14.2 x29 3 ((4 * v1) + x22)) fun x31 =>
        if x31 = 2 then (Option.bind (mx_gr q14.2 (some a0) 4 19) fun x34 =>
          Option.bind (mx_asl q14.2 x34 4 v1 (q5.1 + 60)) fun m37 =>
          some m37)
        else (fj_Mo_arrive_78 (some a0) v1 q5.1 ((4 * v1) + x22) q14.2)))
    else (Option.bind (mx_gr q14.2 (some a0) 4 19) fun x20 =>
      Option.bind (mx_asl q14.2 x20 4 v1 q5.1) fun m23 =>
      some m23)
def fl_Mo_reckon_24 (k0 : Option Nat → Int32 → Int32 → mx_Mem → Option (mx_Mem)) : Nat → Option Nat → Int64 → Int32 → Int32 → Int32 → Int32 → mx_Mem → Option (mx_Mem)
  | 0, _, _, _, _, _, _, _ => none
  | n + 1, v0, v1, v3, v4, v5, v6, mem => Option.bind (mx_gi mem v0 4 1) fun x1 =>
    if x1 < v6 then (k0 v0 v4 v5 mem)
    else (Option.bind (mx_gr mem v0 4 4) fun x4 =>
      Option.bind (mx_agl mem x4 4 v6) fun x6 =>
      if v1 < x6 then (if v5 = 0 then (fl_Mo_reckon_24 k0 n v0 v1 v3 v4 v6 (v6 + 1) mem)
        else (Option.bind (mx_gr mem v0 4 4) fun x11 =>
          Option.bind (mx_agl mem x11 4 v6) fun x13 =>
          Option.bind (mx_gr mem v0 4 4) fun x15 =>
          Option.bind (mx_agl mem x15 4 v5) fun x17 =>
          if x17 ≤ x13 then (fl_Mo_reckon_24 k0 n v0 v1 v3 v4 v5 (v6 + 1) mem)
          else (fl_Mo_reckon_24 k0 n v0 v1 v3 v4 v6 (v6 + 1) mem)))
      else (Option.bind (mx_gr mem v0 4 4) fun x9 =>
        Option.bind (mx_agl mem x9 4 v6) fun x11 =>
        if x11 = v1 then (if v6 ≤ v3 then (fl_Mo_reckon_24 k0 n v0 v1 v3 v4 v5 (v6 + 1) mem)
          else (if v5 = 0 then (fl_Mo_reckon_24 k0 n v0 v1 v3 v4 v6 (v6 + 1) mem)
            else (Option.bind (mx_gr mem v0 4 4) fun x17 =>
              Option.bind (mx_agl mem x17 4 v6) fun x19 =>
              Option.bind (mx_gr mem v0 4 4) fun x21 =>
              Option.bind (mx_agl mem x21 4 v5) fun x23 =>
              if x23 ≤ x19 then (fl_Mo_reckon_24 k0 n v0 v1 v3 v4 v5 (v6 + 1) mem)
              else (fl_Mo_reckon_24 k0 n v0 v1 v3 v4 v6 (v6 + 1) mem))))
        else (fl_Mo_reckon_24 k0 n v0 v1 v3 v4 v5 (v6 + 1) mem)))
def fl_Mo_reckon_9 (k0 : Option Nat → mx_Mem → Option (mx_Mem)) : Nat → Option Nat → Int64 → Int32 → Int32 → mx_Mem → Option (mx_Mem)
  | 0, _, _, _, _, _ => none
  | n + 1, v0, v1, v3, v4, mem => Option.bind (mx_gi mem v0 4 1) fun x1 =>
    if x1 ≤ v4 then (k0 v0 mem)
    else (fl_Mo_reckon_24 (fun (v0 : Option Nat) (v4 : Int32) (v5 : Int32) (m4 : mx_Mem) => Option.bind (mx_gr m4 v0 4 4) fun x5 =>
        Option.bind (mx_agl m4 x5 4 v5) fun x7 =>
        Option.bind (mx_c m4 v0 4) fun a12 =>
        Option.bind (f_Mo_depart a12 v5 m4) fun q9 =>
        fl_Mo_reckon_9 k0 n v0 x7 v5 (v4 + 1) q9) 5000 v0 v1 v3 v4 0 1 mem)
def fl_Mo_reckon_139  : Nat → Option Nat → Int32 → mx_Mem → Option (mx_Mem)
  | 0, _, _, _ => none
  | n + 1, v0, v4, mem => Option.bind (mx_gi mem v0 4 9) fun x1 =>
    if x1 < v4 then (some mem)
    else (Option.bind (mx_c mem v0 4) fun a7 =>
      Option.bind (f_Mo_arrive a7 v4 mem) fun q4 =>
      fl_Mo_reckon_139 n v0 (v4 + 1) q4)
def f_Mo_reckon (a0 : Nat) (mem : mx_Mem) : Option (mx_Mem) :=
    fl_Mo_reckon_9 (fun (v0 : Option Nat) (m1 : mx_Mem) => fl_Mo_reckon_139  5000 v0 1 m1) 5000 (some a0) (-1) 0 0 mem
def fl_Mo_late_47  : Nat → Option Nat → Int32 → Int32 → mx_Mem → Option (Int32 × mx_Mem)
  | 0, _, _, _, _ => none
  | n + 1, v0, v4, v5, mem => Option.bind (mx_gi mem v0 4 9) fun x1 =>
    if x1 < v5 then (some (v4, mem))
    else (Option.bind (mx_gr mem v0 4 20) fun x4 =>
      Option.bind (mx_agi mem x4 5 v5) fun x6 =>
      if x6 = 0 then (Option.bind (mx_gr mem v0 4 19) fun x9 =>
        Option.bind (mx_agl mem x9 4 v5) fun x11 =>
        Option.bind (mx_gr mem v0 4 12) fun x13 =>
        Option.bind (mx_agl mem x13 4 v5) fun x15 =>
        if x11 ≤ x15 then (fl_Mo_late_47 n v0 (v4 + 0) (v5 + 1) mem)
        else (fl_Mo_late_47 n v0 (v4 + 1) (v5 + 1) mem))
      else (fl_Mo_late_47 n v0 (v4 + 1) (v5 + 1) mem))
def f_Mo_late (a0 : Nat) (v1 : Int32) (v2 : Int64) (mem : mx_Mem) : Option (Int32 × mx_Mem) :=
    Option.bind (mx_p mem (some a0) 4 0 (.int 0)) fun m1 =>
    Option.bind (mx_c m1 (some a0) 4) fun a6 =>
    Option.bind (f_Mo_isLine a6 v1 m1) fun q3 =>
    if q3.1 = 0 then (some ((-11), q3.2))
    else (Option.bind (f_Mo_in v2 0 2000 q3.2) fun q9 =>
      if q9.1 = 0 then (some ((-12), q9.2))
      else (Option.bind (mx_gr q9.2 (some a0) 4 6) fun x13 =>
        Option.bind (mx_asl q9.2 x13 4 v1 v2) fun m16 =>
        Option.bind (mx_c m16 (some a0) 4) fun a20 =>
        Option.bind (f_Mo_reckon a20  m16) fun q17 =>
        fl_Mo_late_47  5000 (some a0) 0 1 q17))
def f_Lo_rememberArrival (a0 : Nat) (mem : mx_Mem) : Option (mx_Mem) :=
    Option.bind (mx_gl mem (some a0) 3 9) fun x1 =>
    Option.bind (mx_p mem (some a0) 3 10 (.long x1)) fun m3 =>
    some m3
def fl_Lo_concerns_18  : Nat → Option Nat → Option Nat → Int32 → mx_Mem → Option (Int32 × mx_Mem)
  | 0, _, _, _, _ => none
  | n + 1, v0, v1, v2, mem => Option.bind (mx_gi mem v0 3 5) fun x1 =>
    if x1 ≤ v2 then (some (0, mem))
    else (Option.bind (mx_gr mem v0 3 4) fun x4 =>
      Option.bind (mx_ag mem x4 2 v2) fun x6 =>
      Option.bind (mx_gr mem x6 2 1) fun x8 =>
      if x8 = none then (fl_Lo_concerns_18 n v0 v1 (v2 + 1) mem)
      else (Option.bind (mx_gi mem x8 1 0) fun x11 =>
        Option.bind (mx_gi mem v1 1 0) fun x13 =>
        if x11 = x13 then (some (1, mem))
        else (fl_Lo_concerns_18 n v0 v1 (v2 + 1) mem)))
def f_Lo_concerns (a0 : Nat) (v1 : Option Nat) (mem : mx_Mem) : Option (Int32 × mx_Mem) :=
    Option.bind (mx_gr mem (some a0) 3 0) fun x1 =>
    Option.bind (mx_gi mem x1 1 0) fun x3 =>
    Option.bind (mx_gi mem v1 1 0) fun x5 =>
    if x3 = x5 then (some (1, mem))
    else (fl_Lo_concerns_18  5000 (some a0) v1 0 mem)
def f_Lo_pickFirst (a0 : Nat) (mem : mx_Mem) : Option (mx_Mem) :=
    Option.bind (mx_gi mem (some a0) 3 5) fun x1 =>
    if x1 ≤ 0 then (Option.bind (mx_p mem (some a0) 3 6 (.int (-1))) fun m4 =>
      some m4)
    else (Option.bind (mx_p mem (some a0) 3 6 (.int 0)) fun m4 =>
      some m4)
def f_Lo_hasMoved (a0 : Nat) (mem : mx_Mem) : Option (Int32 × mx_Mem) :=
    Option.bind (mx_gl mem (some a0) 3 9) fun x1 =>
    Option.bind (mx_gl mem (some a0) 3 10) fun x3 =>
    if x1 = x3 then (some (0, mem))
    else (some (1, mem))
def fl_LR_countMoved_4  : Nat → Option Nat → Int32 → Int32 → mx_Mem → Option (Int32 × mx_Mem)
  | 0, _, _, _, _ => none
  | n + 1, v0, v1, v2, mem => Option.bind (mx_gi mem v0 0 4) fun x1 =>
    if x1 ≤ v2 then (some (v1, mem))
    else (Option.bind (mx_gr mem v0 0 2) fun x4 =>
      Option.bind (mx_ag mem x4 1 v2) fun x6 =>
      Option.bind (mx_c mem x6 3) fun a11 =>
      Option.bind (f_Lo_hasMoved a11  mem) fun q8 =>
      if q8.1 = 0 then (fl_LR_countMoved_4 n v0 v1 (v2 + 1) q8.2)
      else (fl_LR_countMoved_4 n v0 (v1 + 1) (v2 + 1) q8.2))
def f_LR_countMoved (a0 : Nat) (mem : mx_Mem) : Option (Int32 × mx_Mem) :=
    fl_LR_countMoved_4  5000 (some a0) 0 0 mem
def fl_LR_tell_32  : Nat → Option Nat → Int64 → Option Nat → Int32 → mx_Mem → Option (Int32 × mx_Mem)
  | 0, _, _, _, _, _ => none
  | n + 1, v0, v2, v4, v5, mem => Option.bind (mx_gi mem v0 0 4) fun x1 =>
    if x1 ≤ v5 then (Option.bind (mx_p mem v4 1 5 (.long v2)) fun m4 =>
      Option.bind (mx_c m4 v0 0) fun a9 =>
      Option.bind (f_LR_settle a9  m4) fun q6 =>
      Option.bind (mx_c q6 v0 0) fun a14 =>
      Option.bind (f_LR_countMoved a14  q6) fun q11 =>
      some (q11.1, q11.2))
    else (Option.bind (mx_gr mem v0 0 2) fun x4 =>
      Option.bind (mx_ag mem x4 1 v5) fun x6 =>
      Option.bind (mx_c mem x6 3) fun a11 =>
      Option.bind (f_Lo_rememberArrival a11  mem) fun q8 =>
      Option.bind (mx_gr q8 v0 0 2) fun x13 =>
      Option.bind (mx_ag q8 x13 1 v5) fun x15 =>
      Option.bind (mx_c q8 x15 3) fun a20 =>
      Option.bind (f_Lo_concerns a20 v4 q8) fun q17 =>
      if q17.1 = 0 then (fl_LR_tell_32 n v0 v2 v4 (v5 + 1) q17.2)
      else (Option.bind (mx_gr q17.2 v0 0 2) fun x23 =>
        Option.bind (mx_ag q17.2 x23 1 v5) fun x25 =>
        Option.bind (mx_c q17.2 x25 3) fun a30 =>
        Option.bind (f_Lo_pickFirst a30  q17.2) fun q27 =>
        fl_LR_tell_32 n v0 v2 v4 (v5 + 1) q27))
def f_LR_tell (a0 : Nat) (v1 : Int32) (v2 : Int64) (mem : mx_Mem) : Option (Int32 × mx_Mem) :=
    Option.bind (mx_c mem (some a0) 0) fun a4 =>
    Option.bind (f_LR_findLine a4 v1 mem) fun q1 =>
    if q1.1 = none then (some ((-11), q1.2))
    else (Option.bind (f_LR_isWithin v2 0 2000 q1.2) fun q7 =>
      if q7.1 = 0 then (some ((-12), q7.2))
      else (fl_LR_tell_32  5000 (some a0) v2 q1.1 0 q7.2))
def fl_Mo_tell_37 (k0 : Option Nat → Int32 → Int64 → mx_Mem → Option (Int32 × mx_Mem)) : Nat → Option Nat → Int32 → Int64 → Int32 → mx_Mem → Option (Int32 × mx_Mem)
  | 0, _, _, _, _, _ => none
  | n + 1, v0, v1, v2, v4, mem => Option.bind (mx_gi mem v0 4 9) fun x1 =>
    if x1 < v4 then (k0 v0 v1 v2 mem)
    else (Option.bind (mx_gr mem v0 4 22) fun x4 =>
      Option.bind (mx_gr mem v0 4 19) fun x6 =>
      Option.bind (mx_agl mem x6 4 v4) fun x8 =>
      Option.bind (mx_asl mem x4 4 v4 x8) fun m11 =>
      fl_Mo_tell_37 k0 n v0 v1 v2 (v4 + 1) m11)
def fl_Mo_tell_106 (k0 : Option Nat → Int32 → Int32 → Int32 → mx_Mem → Option (Int32 × mx_Mem)) : Nat → Option Nat → Int32 → Int32 → Int32 → Int32 → mx_Mem → Option (Int32 × mx_Mem)
  | 0, _, _, _, _, _, _ => none
  | n + 1, v0, v1, v4, v5, v6, mem => Option.bind (mx_gr mem v0 4 14) fun x1 =>
    Option.bind (mx_agi mem x1 3 v4) fun x3 =>
    if x3 ≤ v6 then (k0 v0 v1 v4 v5 mem)
    else (if v5 = 0 then (Option.bind (mx_gr mem v0 4 17) fun x7 =>
        Option.bind (mx_agi mem x7 3 ((4 * v4) + v6)) fun x9 =>
        if x9 = v1 then (fl_Mo_tell_106 k0 n v0 v1 v4 1 (v6 + 1) mem)
        else (fl_Mo_tell_106 k0 n v0 v1 v4 0 (v6 + 1) mem))
      else (fl_Mo_tell_106 k0 n v0 v1 v4 1 (v6 + 1) mem))
def fl_Mo_tell_76 (k0 : Option Nat → mx_Mem → Option (Int32 × mx_Mem)) : Nat → Option Nat → Int32 → Int32 → mx_Mem → Option (Int32 × mx_Mem)
  | 0, _, _, _, _ => none
  | n + 1, v0, v1, v4, mem => Option.bind (mx_gi mem v0 4 9) fun x1 =>
    if x1 < v4 then (k0 v0 mem)
    else (Option.bind (mx_gr mem v0 4 10) fun x4 =>
      Option.bind (mx_agi mem x4 3 v4) fun x6 =>
      if x6 = v1 then (fl_Mo_tell_106 (fun (v0 : Option Nat) (v1 : Int32) (v4 : Int32) (v5 : Int32) (m9 : mx_Mem) => Option.bind (mx_gr m9 v0 4 15) fun x10 =>
          if v5 = 0 then (Option.bind (mx_gr m9 v0 4 15) fun x13 =>
            Option.bind (mx_agi m9 x13 3 v4) fun x15 =>
            Option.bind (mx_asi m9 x10 3 v4 x15) fun m18 =>
            fl_Mo_tell_76 k0 n v0 v1 (v4 + 1) m18)
          else (Option.bind (mx_asi m9 x10 3 v4 0) fun m14 =>
            fl_Mo_tell_76 k0 n v0 v1 (v4 + 1) m14)) 5000 v0 v1 v4 1 0 mem)
      else (fl_Mo_tell_106 (fun (v0 : Option Nat) (v1 : Int32) (v4 : Int32) (v5 : Int32) (m9 : mx_Mem) => Option.bind (mx_gr m9 v0 4 15) fun x10 =>
          if v5 = 0 then (Option.bind (mx_gr m9 v0 4 15) fun x13 =>
            Option.bind (mx_agi m9 x13 3 v4) fun x15 =>
            Option.bind (mx_asi m9 x10 3 v4 x15) fun m18 =>
            fl_Mo_tell_76 k0 n v0 v1 (v4 + 1) m18)
          else (Option.bind (mx_asi m9 x10 3 v4 0) fun m14 =>
            fl_Mo_tell_76 k0 n v0 v1 (v4 + 1) m14)) 5000 v0 v1 v4 0 0 mem))
def fl_Mo_tell_191  : Nat → Option Nat → Int32 → Int32 → mx_Mem → Option (Int32 × mx_Mem)
  | 0, _, _, _, _ => none
  | n + 1, v0, v4, v5, mem => Option.bind (mx_gi mem v0 4 9) fun x1 =>
    if x1 < v5 then (some (v4, mem))
    else (Option.bind (mx_gr mem v0 4 19) fun x4 =>
      Option.bind (mx_agl mem x4 4 v5) fun x6 =>
      Option.bind (mx_gr mem v0 4 22) fun x8 =>
      Option.bind (mx_agl mem x8 4 v5) fun x10 =>
      if x6 = x10 then (fl_Mo_tell_191 n v0 (v4 + 0) (v5 + 1) mem)
      else (fl_Mo_tell_191 n v0 (v4 + 1) (v5 + 1) mem))
def f_Mo_tell (a0 : Nat) (v1 : Int32) (v2 : Int64) (mem : mx_Mem) : Option (Int32 × mx_Mem) :=
    Option.bind (mx_p mem (some a0) 4 0 (.int 0)) fun m1 =>
    Option.bind (mx_c m1 (some a0) 4) fun a6 =>
    Option.bind (f_Mo_isLine a6 v1 m1) fun q3 =>
    if q3.1 = 0 then (some ((-11), q3.2))
    else (Option.bind (f_Mo_in v2 0 2000 q3.2) fun q9 =>
      if q9.1 = 0 then (some ((-12), q9.2))
      else (Option.bind (mx_c q9.2 (some a0) 4) fun a16 =>
        Option.bind (f_Mo_reckon a16  q9.2) fun q13 =>
        fl_Mo_tell_37 (fun (v0 : Option Nat) (v1 : Int32) (v2 : Int64) (m18 : mx_Mem) => Option.bind (mx_gr m18 v0 4 6) fun x19 =>
          Option.bind (mx_asl m18 x19 4 v1 v2) fun m22 =>
          fl_Mo_tell_76 (fun (v0 : Option Nat) (m23 : mx_Mem) => Option.bind (mx_c m23 v0 4) fun a27 =>
            Option.bind (f_Mo_reckon a27  m23) fun q24 =>
            fl_Mo_tell_191  5000 v0 0 1 q24) 5000 v0 v1 1 m22) 5000 (some a0) v1 v2 1 q13))
def f_Lo_harm (a0 : Nat) (mem : mx_Mem) : Option (Int64 × mx_Mem) :=
    Option.bind (mx_c mem (some a0) 3) fun a4 =>
    Option.bind (f_Lo_pickedOption a4  mem) fun q1 =>
    Option.bind (mx_gi q1.2 (some a0) 3 3) fun x6 =>
    Option.bind (mx_c q1.2 (some a0) 3) fun a11 =>
    Option.bind (f_Lo_minutesBehind a11  q1.2) fun q8 =>
    if q1.1 = none then (some (((x6.toInt64 * q8.1) + 0), q8.2))
    else (Option.bind (mx_gl q8.2 q1.1 2 2) fun x14 =>
      some (((x6.toInt64 * q8.1) + x14), q8.2))
def fl_LR_sumHarm_4  : Nat → Option Nat → Int64 → Int32 → mx_Mem → Option (Int64 × mx_Mem)
  | 0, _, _, _, _ => none
  | n + 1, v0, v1, v3, mem => Option.bind (mx_gi mem v0 0 4) fun x1 =>
    if x1 ≤ v3 then (some (v1, mem))
    else (Option.bind (mx_gr mem v0 0 2) fun x4 =>
      Option.bind (mx_ag mem x4 1 v3) fun x6 =>
      Option.bind (mx_c mem x6 3) fun a11 =>
      Option.bind (f_Lo_harm a11  mem) fun q8 =>
      fl_LR_sumHarm_4 n v0 (v1 + q8.1) (v3 + 1) q8.2)
def f_LR_sumHarm (a0 : Nat) (mem : mx_Mem) : Option (Int64 × mx_Mem) :=
    fl_LR_sumHarm_4  5000 (some a0) 0 0 mem
def f_Lo_isAct (a0 : Nat) (mem : mx_Mem) : Option (Int32 × mx_Mem) :=
    Option.bind (mx_c mem (some a0) 3) fun a4 =>
    Option.bind (f_Lo_pickedOption a4  mem) fun q1 =>
    if q1.1 = none then (some (0, q1.2))
    else (Option.bind (mx_gi q1.2 q1.1 2 0) fun x7 =>
      if x7 = 0 then (some (0, q1.2))
      else (some (1, q1.2)))
def fl_LR_countActs_4  : Nat → Option Nat → Int32 → Int32 → mx_Mem → Option (Int32 × mx_Mem)
  | 0, _, _, _, _ => none
  | n + 1, v0, v1, v2, mem => Option.bind (mx_gi mem v0 0 4) fun x1 =>
    if x1 ≤ v2 then (some (v1, mem))
    else (Option.bind (mx_gr mem v0 0 2) fun x4 =>
      Option.bind (mx_ag mem x4 1 v2) fun x6 =>
      Option.bind (mx_c mem x6 3) fun a11 =>
      Option.bind (f_Lo_isAct a11  mem) fun q8 =>
      if q8.1 = 0 then (fl_LR_countActs_4 n v0 v1 (v2 + 1) q8.2)
      else (fl_LR_countActs_4 n v0 (v1 + 1) (v2 + 1) q8.2))
def f_LR_countActs (a0 : Nat) (mem : mx_Mem) : Option (Int32 × mx_Mem) :=
    fl_LR_countActs_4  5000 (some a0) 0 0 mem
def f_Lo_keepPicked (a0 : Nat) (mem : mx_Mem) : Option (mx_Mem) :=
    Option.bind (mx_gi mem (some a0) 3 6) fun x1 =>
    Option.bind (mx_p mem (some a0) 3 7 (.int x1)) fun m3 =>
    some m3
def fl_LR_keepChoice_2  : Nat → Option Nat → Int32 → mx_Mem → Option (mx_Mem)
  | 0, _, _, _ => none
  | n + 1, v0, v1, mem => Option.bind (mx_gi mem v0 0 4) fun x1 =>
    if x1 ≤ v1 then (some mem)
    else (Option.bind (mx_gr mem v0 0 2) fun x4 =>
      Option.bind (mx_ag mem x4 1 v1) fun x6 =>
      Option.bind (mx_c mem x6 3) fun a11 =>
      Option.bind (f_Lo_keepPicked a11  mem) fun q8 =>
      fl_LR_keepChoice_2 n v0 (v1 + 1) q8)
def f_LR_keepChoice (a0 : Nat) (mem : mx_Mem) : Option (mx_Mem) :=
    fl_LR_keepChoice_2  5000 (some a0) 0 mem
def f_Lo_pickNext (a0 : Nat) (mem : mx_Mem) : Option (Int32 × mx_Mem) :=
    Option.bind (mx_gi mem (some a0) 3 6) fun x1 =>
    Option.bind (mx_gi mem (some a0) 3 5) fun x3 =>
    if (x1 + 1) < x3 then (Option.bind (mx_gi mem (some a0) 3 6) fun x6 =>
      Option.bind (mx_p mem (some a0) 3 6 (.int ((x6 + 1)))) fun m8 =>
      some (1, m8))
    else (some (0, mem))
def fl_LR_pickNextChoice_7  : Nat → Option Nat → Int32 → mx_Mem → Option (Int32 × mx_Mem)
  | 0, _, _, _ => none
  | n + 1, v0, v1, mem => if v1 < 0 then (some (0, mem))
    else (Option.bind (mx_gr mem v0 0 2) fun x2 =>
      Option.bind (mx_ag mem x2 1 v1) fun x4 =>
      Option.bind (mx_c mem x4 3) fun a9 =>
      Option.bind (f_Lo_pickNext a9  mem) fun q6 =>
      if q6.1 = 0 then (Option.bind (mx_gr q6.2 v0 0 2) fun x12 =>
        Option.bind (mx_ag q6.2 x12 1 v1) fun x14 =>
        Option.bind (mx_c q6.2 x14 3) fun a19 =>
        Option.bind (f_Lo_pickFirst a19  q6.2) fun q16 =>
        fl_LR_pickNextChoice_7 n v0 (v1 + (-1)) q16)
      else (some (1, q6.2)))
def f_LR_pickNextChoice (a0 : Nat) (mem : mx_Mem) : Option (Int32 × mx_Mem) :=
    Option.bind (mx_gi mem (some a0) 0 4) fun x1 =>
    fl_LR_pickNextChoice_7  5000 (some a0) (x1 - 1) mem
def f_Lo_takeKept (a0 : Nat) (mem : mx_Mem) : Option (mx_Mem) :=
    Option.bind (mx_gi mem (some a0) 3 7) fun x1 =>
    Option.bind (mx_p mem (some a0) 3 6 (.int x1)) fun m3 =>
    some m3
def fl_LR_takeKeptChoice_2  : Nat → Option Nat → Int32 → mx_Mem → Option (mx_Mem)
  | 0, _, _, _ => none
  | n + 1, v0, v1, mem => Option.bind (mx_gi mem v0 0 4) fun x1 =>
    if x1 ≤ v1 then (some mem)
    else (Option.bind (mx_gr mem v0 0 2) fun x4 =>
      Option.bind (mx_ag mem x4 1 v1) fun x6 =>
      Option.bind (mx_c mem x6 3) fun a11 =>
      Option.bind (f_Lo_takeKept a11  mem) fun q8 =>
      fl_LR_takeKeptChoice_2 n v0 (v1 + 1) q8)
def f_LR_takeKeptChoice (a0 : Nat) (mem : mx_Mem) : Option (mx_Mem) :=
    fl_LR_takeKeptChoice_2  5000 (some a0) 0 mem
def fl_LR_solve_2 (k0 : Option Nat → mx_Mem → Option (Int64 × mx_Mem)) : Nat → Option Nat → Int32 → mx_Mem → Option (Int64 × mx_Mem)
  | 0, _, _, _ => none
  | n + 1, v0, v1, mem => Option.bind (mx_gi mem v0 0 4) fun x1 =>
    if x1 ≤ v1 then (k0 v0 mem)
    else (Option.bind (mx_gr mem v0 0 2) fun x4 =>
      Option.bind (mx_ag mem x4 1 v1) fun x6 =>
      Option.bind (mx_c mem x6 3) fun a11 =>
      Option.bind (f_Lo_pickFirst a11  mem) fun q8 =>
      fl_LR_solve_2 k0 n v0 (v1 + 1) q8)
def fl_LR_solve_37  : Nat → Option Nat → Int64 → Int32 → Int32 → Int32 → mx_Mem → Option (Int64 × mx_Mem)
  | 0, _, _, _, _, _, _ => none
  | n + 1, v0, v1, v3, v4, v5, mem => if v4 = 0 then (Option.bind (mx_c mem v0 0) fun a5 =>
      Option.bind (f_LR_takeKeptChoice a5  mem) fun q2 =>
      Option.bind (mx_c q2 v0 0) fun a10 =>
      Option.bind (f_LR_settle a10  q2) fun q7 =>
      some (v1, q7))
    else (if 4096 ≤ v5 then (Option.bind (mx_c mem v0 0) fun a6 =>
        Option.bind (f_LR_takeKeptChoice a6  mem) fun q3 =>
        Option.bind (mx_c q3 v0 0) fun a11 =>
        Option.bind (f_LR_settle a11  q3) fun q8 =>
        some (v1, q8))
      else (Option.bind (mx_c mem v0 0) fun a6 =>
        Option.bind (f_LR_settle a6  mem) fun q3 =>
        Option.bind (mx_c q3 v0 0) fun a11 =>
        Option.bind (f_LR_sumHarm a11  q3) fun q8 =>
        Option.bind (mx_c q8.2 v0 0) fun a16 =>
        Option.bind (f_LR_countActs a16  q8.2) fun q13 =>
        if q8.1 < v1 then (Option.bind (mx_c q13.2 v0 0) fun a22 =>
          Option.bind (f_LR_keepChoice a22  q13.2) fun q19 =>
          Option.bind (mx_c q19 v0 0) fun a27 =>
          Option.bind (f_LR_pickNextChoice a27  q19) fun q24 =>
          fl_LR_solve_37 n v0 q8.1 q13.1 q24.1 (v5 + 1) q24.2)
        else (if q8.1 = v1 then (if v3 ≤ q13.1 then (Option.bind (mx_c q13.2 v0 0) fun a24 =>
              Option.bind (f_LR_pickNextChoice a24  q13.2) fun q21 =>
              fl_LR_solve_37 n v0 v1 v3 q21.1 (v5 + 1) q21.2)
            else (Option.bind (mx_c q13.2 v0 0) fun a24 =>
              Option.bind (f_LR_keepChoice a24  q13.2) fun q21 =>
              Option.bind (mx_c q21 v0 0) fun a29 =>
              Option.bind (f_LR_pickNextChoice a29  q21) fun q26 =>
              fl_LR_solve_37 n v0 q8.1 q13.1 q26.1 (v5 + 1) q26.2))
          else (Option.bind (mx_c q13.2 v0 0) fun a23 =>
            Option.bind (f_LR_pickNextChoice a23  q13.2) fun q20 =>
            fl_LR_solve_37 n v0 v1 v3 q20.1 (v5 + 1) q20.2))))
def f_LR_solve (a0 : Nat) (mem : mx_Mem) : Option (Int64 × mx_Mem) :=
    fl_LR_solve_2 (fun (v0 : Option Nat) (m1 : mx_Mem) => fl_LR_solve_37  5000 v0 9223372036854775807 0 1 0 m1) 5000 (some a0) 0 mem
def fl_Mo_harm_4  : Nat → Option Nat → Int64 → Int32 → mx_Mem → Option (Int64 × mx_Mem)
  | 0, _, _, _, _ => none
  | n + 1, v0, v1, v3, mem => Option.bind (mx_gi mem v0 4 9) fun x1 =>
    if x1 < v3 then (some (v1, mem))
    else (Option.bind (mx_gr mem v0 4 19) fun x4 =>
      Option.bind (mx_agl mem x4 4 v3) fun x6 =>
      Option.bind (mx_gr mem v0 4 12) fun x8 =>
      Option.bind (mx_agl mem x8 4 v3) fun x10 =>
      if x6 ≤ x10 then (Option.bind (mx_gr mem v0 4 14) fun x13 =>
        Option.bind (mx_agi mem x13 3 v3) fun x15 =>
        if x15 ≤ 0 then (fl_Mo_harm_4 n v0 ((v1 + 0) + 0) (v3 + 1) mem)
        else (Option.bind (mx_gr mem v0 4 18) fun x18 =>
          Option.bind (mx_gr mem v0 4 15) fun x20 =>
          Option.bind (mx_agi mem x20 3 v3) fun x22 =>
          Option.bind (mx_agl mem x18 4 ((4 * v3) + x22)) fun x24 =>
          fl_Mo_harm_4 n v0 ((v1 + 0) + x24) (v3 + 1) mem))
      else (Option.bind (mx_gr mem v0 4 13) fun x13 =>
        Option.bind (mx_agi mem x13 3 v3) fun x15 =>
        Option.bind (mx_gr mem v0 4 19) fun x17 =>
        Option.bind (mx_agl mem x17 4 v3) fun x19 =>
        Option.bind (mx_gr mem v0 4 12) fun x21 =>
        Option.bind (mx_agl mem x21 4 v3) fun x23 =>
        Option.bind (mx_gr mem v0 4 14) fun x25 =>
        Option.bind (mx_agi mem x25 3 v3) fun x27 =>
        if x27 ≤ 0 then (fl_Mo_harm_4 n v0 ((v1 + (x15.toInt64 * (x19 - x23))) + 0) (v3 + 1) mem)
        else (Option.bind (mx_gr mem v0 4 18) fun x30 =>
          Option.bind (mx_gr mem v0 4 15) fun x32 =>
          Option.bind (mx_agi mem x32 3 v3) fun x34 =>
          Option.bind (mx_agl mem x30 4 ((4 * v3) + x34)) fun x36 =>
          fl_Mo_harm_4 n v0 ((v1 + (x15.toInt64 * (x19 - x23))) + x36) (v3 + 1) mem)))
def f_Mo_harm (a0 : Nat) (mem : mx_Mem) : Option (Int64 × mx_Mem) :=
    fl_Mo_harm_4  5000 (some a0) 0 1 mem
def fl_Mo_actsNow_4  : Nat → Option Nat → Int32 → Int32 → mx_Mem → Option (Int32 × mx_Mem)
  | 0, _, _, _, _ => none
  | n + 1, v0, v1, v2, mem => Option.bind (mx_gi mem v0 4 9) fun x1 =>
    if x1 < v2 then (some (v1, mem))
    else (Option.bind (mx_gr mem v0 4 14) fun x4 =>
      Option.bind (mx_agi mem x4 3 v2) fun x6 =>
      if x6 ≤ 0 then (fl_Mo_actsNow_4 n v0 (v1 + 0) (v2 + 1) mem)
      else (Option.bind (mx_gr mem v0 4 16) fun x9 =>
        Option.bind (mx_gr mem v0 4 15) fun x11 =>
        Option.bind (mx_agi mem x11 3 v2) fun x13 =>
        Option.bind (mx_agi mem x9 3 ((4 * v2) + x13)) fun x15 =>
        if x15 ≤ 0 then (fl_Mo_actsNow_4 n v0 (v1 + 0) (v2 + 1) mem)
        else (fl_Mo_actsNow_4 n v0 (v1 + 1) (v2 + 1) mem)))
def f_Mo_actsNow (a0 : Nat) (mem : mx_Mem) : Option (Int32 × mx_Mem) :=
    fl_Mo_actsNow_4  5000 (some a0) 0 1 mem
def fl_Mo_next_5 (k0 : Option Nat → Int32 → mx_Mem → Option (Int32 × mx_Mem)) : Nat → Option Nat → Int32 → mx_Mem → Option (Int32 × mx_Mem)
  | 0, _, _, _ => none
  | n + 1, v0, v1, mem => if v1 ≤ 0 then (k0 v0 v1 mem)
    else (Option.bind (mx_gr mem v0 4 15) fun x2 =>
      Option.bind (mx_agi mem x2 3 v1) fun x4 =>
      Option.bind (mx_gr mem v0 4 14) fun x6 =>
      Option.bind (mx_agi mem x6 3 v1) fun x8 =>
      if (x4 + 1) < x8 then (k0 v0 v1 mem)
      else (Option.bind (mx_gr mem v0 4 15) fun x11 =>
        Option.bind (mx_asi mem x11 3 v1 0) fun m14 =>
        fl_Mo_next_5 k0 n v0 (v1 + (-1)) m14))
def fj_Mo_next_39 (v0 : Option Nat) (v1 : Int32) (mem : mx_Mem) : Option (Int32 × mx_Mem) :=
    if v1 ≤ 0 then (if v1 ≤ 0 then (some (0, mem))
      else (some (1, mem)))
    else (Option.bind (mx_gr mem v0 4 15) fun x2 =>
      Option.bind (mx_agi mem x2 3 v1) fun x4 =>
      Option.bind (mx_asi mem x2 3 v1 (x4 + 1)) fun m7 =>
      if v1 ≤ 0 then (some (0, m7))
      else (some (1, m7)))
def f_Mo_next (a0 : Nat) (mem : mx_Mem) : Option (Int32 × mx_Mem) :=
    Option.bind (mx_gi mem (some a0) 4 9) fun x1 =>
    fl_Mo_next_5 (fun (v0 : Option Nat) (v1 : Int32) (m3 : mx_Mem) => fj_Mo_next_39 v0 v1 m3) 5000 (some a0) x1 mem
def fl_Mo_solve_7 (k0 : Option Nat → mx_Mem → Option (Int64 × mx_Mem)) : Nat → Option Nat → Int32 → mx_Mem → Option (Int64 × mx_Mem)
  | 0, _, _, _ => none
  | n + 1, v0, v1, mem => Option.bind (mx_gi mem v0 4 9) fun x1 =>
    if x1 < v1 then (k0 v0 mem)
    else (Option.bind (mx_gr mem v0 4 15) fun x4 =>
      Option.bind (mx_asi mem x4 3 v1 0) fun m7 =>
      fl_Mo_solve_7 k0 n v0 (v1 + 1) m7)
def fl_Mo_solve_96 (k0 : Option Nat → Int64 → Int32 → Int32 → mx_Mem → Option (Int64 × mx_Mem)) : Nat → Option Nat → Int64 → Int32 → Int32 → Int32 → mx_Mem → Option (Int64 × mx_Mem)
  | 0, _, _, _, _, _, _ => none
  | n + 1, v0, v1, v3, v4, v9, mem => Option.bind (mx_gi mem v0 4 9) fun x1 =>
    if x1 < v9 then (k0 v0 v1 v3 v4 mem)
    else (Option.bind (mx_gr mem v0 4 21) fun x4 =>
      Option.bind (mx_gr mem v0 4 15) fun x6 =>
      Option.bind (mx_agi mem x6 3 v9) fun x8 =>
      Option.bind (mx_asi mem x4 3 v9 x8) fun m11 =>
      fl_Mo_solve_96 k0 n v0 v1 v3 v4 (v9 + 1) m11)
def fl_Mo_solve_38 (k0 : Option Nat → Int64 → mx_Mem → Option (Int64 × mx_Mem)) : Nat → Option Nat → Int64 → Int32 → Int32 → Int32 → mx_Mem → Option (Int64 × mx_Mem)
  | 0, _, _, _, _, _, _ => none
  | n + 1, v0, v1, v3, v4, v5, mem => if v5 = 0 then (k0 v0 v1 mem)
    else (Option.bind (mx_c mem v0 4) fun a5 =>
      Option.bind (f_Mo_reckon a5  mem) fun q2 =>
      Option.bind (mx_c q2 v0 4) fun a10 =>
      Option.bind (f_Mo_harm a10  q2) fun q7 =>
      Option.bind (mx_c q7.2 v0 4) fun a15 =>
      Option.bind (f_Mo_actsNow a15  q7.2) fun q12 =>
      if v4 = 0 then (fl_Mo_solve_96 (fun (v0 : Option Nat) (v1 : Int64) (v3 : Int32) (v4 : Int32) (m18 : mx_Mem) => Option.bind (mx_c m18 v0 4) fun a22 =>
          Option.bind (f_Mo_next a22  m18) fun q19 =>
          fl_Mo_solve_38 k0 n v0 v1 v3 v4 q19.1 q19.2) 5000 v0 q7.1 q12.1 1 1 q12.2)
      else (if q7.1 < v1 then (fl_Mo_solve_96 (fun (v0 : Option Nat) (v1 : Int64) (v3 : Int32) (v4 : Int32) (m19 : mx_Mem) => Option.bind (mx_c m19 v0 4) fun a23 =>
            Option.bind (f_Mo_next a23  m19) fun q20 =>
            fl_Mo_solve_38 k0 n v0 v1 v3 v4 q20.1 q20.2) 5000 v0 q7.1 q12.1 1 1 q12.2)
        else (if q7.1 = v1 then (if v3 ≤ q12.1 then (Option.bind (mx_c q12.2 v0 4) fun a24 =>
              Option.bind (f_Mo_next a24  q12.2) fun q21 =>
              fl_Mo_solve_38 k0 n v0 v1 v3 v4 q21.1 q21.2)
            else (fl_Mo_solve_96 (fun (v0 : Option Nat) (v1 : Int64) (v3 : Int32) (v4 : Int32) (m21 : mx_Mem) => Option.bind (mx_c m21 v0 4) fun a25 =>
                Option.bind (f_Mo_next a25  m21) fun q22 =>
                fl_Mo_solve_38 k0 n v0 v1 v3 v4 q22.1 q22.2) 5000 v0 q7.1 q12.1 1 1 q12.2))
          else (Option.bind (mx_c q12.2 v0 4) fun a23 =>
            Option.bind (f_Mo_next a23  q12.2) fun q20 =>
            fl_Mo_solve_38 k0 n v0 v1 v3 v4 q20.1 q20.2))))
def fl_Mo_solve_137  : Nat → Option Nat → Int64 → Int32 → mx_Mem → Option (Int64 × mx_Mem)
  | 0, _, _, _, _ => none
  | n + 1, v0, v1, v6, mem => Option.bind (mx_gi mem v0 4 9) fun x1 =>
    if x1 < v6 then (some (v1, mem))
    else (Option.bind (mx_gr mem v0 4 15) fun x4 =>
      Option.bind (mx_gr mem v0 4 21) fun x6 =>
      Option.bind (mx_agi mem x6 3 v6) fun x8 =>
      Option.bind (mx_asi mem x4 3 v6 x8) fun m11 =>
      fl_Mo_solve_137 n v0 v1 (v6 + 1) m11)
def f_Mo_solve (a0 : Nat) (mem : mx_Mem) : Option (Int64 × mx_Mem) :=
    Option.bind (mx_p mem (some a0) 4 0 (.int 0)) fun m1 =>
    fl_Mo_solve_7 (fun (v0 : Option Nat) (m3 : mx_Mem) => fl_Mo_solve_38 (fun (v0 : Option Nat) (v1 : Int64) (m4 : mx_Mem) => fl_Mo_solve_137  5000 v0 v1 1 m4) 5000 v0 0 0 0 1 m3) 5000 (some a0) 1 m1
def f_LR_chosen (a0 : Nat) (v1 : Int32) (mem : mx_Mem) : Option (Int32 × mx_Mem) :=
    Option.bind (mx_c mem (some a0) 0) fun a4 =>
    Option.bind (f_LR_findLoad a4 v1 mem) fun q1 =>
    if q1.1 = none then (some ((-11), q1.2))
    else (Option.bind (mx_gi q1.2 q1.1 3 6) fun x7 =>
      some (x7, q1.2))
def f_Mo_chosen (a0 : Nat) (v1 : Int32) (mem : mx_Mem) : Option (Int32 × mx_Mem) :=
    Option.bind (mx_p mem (some a0) 4 0 (.int 0)) fun m1 =>
    Option.bind (mx_c m1 (some a0) 4) fun a6 =>
    Option.bind (f_Mo_isLoad a6 v1 m1) fun q3 =>
    if q3.1 = 0 then (some ((-11), q3.2))
    else (Option.bind (mx_gr q3.2 (some a0) 4 14) fun x9 =>
      Option.bind (mx_agi q3.2 x9 3 v1) fun x11 =>
      if x11 = 0 then (some ((-1), q3.2))
      else (Option.bind (mx_gr q3.2 (some a0) 4 15) fun x14 =>
        Option.bind (mx_agi q3.2 x14 3 v1) fun x16 =>
        some (x16, q3.2)))
def f_LR_arrival (a0 : Nat) (v1 : Int32) (mem : mx_Mem) : Option (Int64 × mx_Mem) :=
    Option.bind (mx_c mem (some a0) 0) fun a4 =>
    Option.bind (f_LR_findLoad a4 v1 mem) fun q1 =>
    if q1.1 = none then (some ((-11), q1.2))
    else (Option.bind (mx_gl q1.2 q1.1 3 9) fun x7 =>
      some (x7, q1.2))
def f_Mo_arrival (a0 : Nat) (v1 : Int32) (mem : mx_Mem) : Option (Int64 × mx_Mem) :=
    Option.bind (mx_p mem (some a0) 4 0 (.int 0)) fun m1 =>
    Option.bind (mx_c m1 (some a0) 4) fun a6 =>
    Option.bind (f_Mo_isLoad a6 v1 m1) fun q3 =>
    if q3.1 = 0 then (some ((-11), q3.2))
    else (Option.bind (mx_c q3.2 (some a0) 4) fun a12 =>
      Option.bind (f_Mo_reckon a12  q3.2) fun q9 =>
      Option.bind (mx_gr q9 (some a0) 4 19) fun x14 =>
      Option.bind (mx_agl q9 x14 4 v1) fun x16 =>
      some (x16, q9))
def f_LR_departs (a0 : Nat) (v1 : Int32) (mem : mx_Mem) : Option (Int64 × mx_Mem) :=
    Option.bind (mx_c mem (some a0) 0) fun a4 =>
    Option.bind (f_LR_findLine a4 v1 mem) fun q1 =>
    if q1.1 = none then (some ((-11), q1.2))
    else (Option.bind (mx_gl q1.2 q1.1 1 7) fun x7 =>
      some (x7, q1.2))
def f_Mo_departs (a0 : Nat) (v1 : Int32) (mem : mx_Mem) : Option (Int64 × mx_Mem) :=
    Option.bind (mx_p mem (some a0) 4 0 (.int 0)) fun m1 =>
    Option.bind (mx_c m1 (some a0) 4) fun a6 =>
    Option.bind (f_Mo_isLine a6 v1 m1) fun q3 =>
    if q3.1 = 0 then (some ((-11), q3.2))
    else (Option.bind (mx_c q3.2 (some a0) 4) fun a12 =>
      Option.bind (f_Mo_reckon a12  q3.2) fun q9 =>
      Option.bind (mx_gr q9 (some a0) 4 8) fun x14 =>
      Option.bind (mx_agl q9 x14 4 v1) fun x16 =>
      some (x16, q9))
def fl_LR_none_4  : Nat → Option Nat → Int32 → Int32 → Int32 → mx_Mem → Option (Int32 × mx_Mem)
  | 0, _, _, _, _, _ => none
  | n + 1, v0, v1, v2, v3, mem => Option.bind (mx_gi mem v0 0 4) fun x1 =>
    if x1 ≤ v3 then (some ((-1), mem))
    else (Option.bind (mx_gr mem v0 0 2) fun x4 =>
      Option.bind (mx_ag mem x4 1 v3) fun x6 =>
      Option.bind (mx_gi mem x6 3 11) fun x8 =>
      if x8 = 0 then (fl_LR_none_4 n v0 v1 v2 (v3 + 1) mem)
      else (if v2 = v1 then (some ((v3 + 1), mem))
        else (fl_LR_none_4 n v0 v1 (v2 + 1) (v3 + 1) mem)))
def f_LR_none (a0 : Nat) (v1 : Int32) (mem : mx_Mem) : Option (Int32 × mx_Mem) :=
    fl_LR_none_4  5000 (some a0) v1 0 0 mem
def fl_Mo_none_13  : Nat → Option Nat → Int32 → Int32 → Int32 → mx_Mem → Option (Int32 × mx_Mem)
  | 0, _, _, _, _, _ => none
  | n + 1, v0, v1, v2, v3, mem => Option.bind (mx_gi mem v0 4 9) fun x1 =>
    if x1 < v3 then (some ((-1), mem))
    else (Option.bind (mx_gr mem v0 4 20) fun x4 =>
      Option.bind (mx_agi mem x4 5 v3) fun x6 =>
      if x6 = 0 then (fl_Mo_none_13 n v0 v1 v2 (v3 + 1) mem)
      else (if v2 = v1 then (some (v3, mem))
        else (fl_Mo_none_13 n v0 v1 (v2 + 1) (v3 + 1) mem)))
def f_Mo_none (a0 : Nat) (v1 : Int32) (mem : mx_Mem) : Option (Int32 × mx_Mem) :=
    Option.bind (mx_p mem (some a0) 4 0 (.int 0)) fun m1 =>
    Option.bind (mx_c m1 (some a0) 4) fun a6 =>
    Option.bind (f_Mo_reckon a6  m1) fun q3 =>
    fl_Mo_none_13  5000 (some a0) v1 0 1 q3
def f_LR_acts (a0 : Nat) (mem : mx_Mem) : Option (Int32 × mx_Mem) :=
    Option.bind (mx_c mem (some a0) 0) fun a4 =>
    Option.bind (f_LR_countActs a4  mem) fun q1 =>
    some (q1.1, q1.2)
def f_Mo_acts (a0 : Nat) (mem : mx_Mem) : Option (Int32 × mx_Mem) :=
    Option.bind (mx_p mem (some a0) 4 0 (.int 0)) fun m1 =>
    Option.bind (mx_c m1 (some a0) 4) fun a6 =>
    Option.bind (f_Mo_actsNow a6  m1) fun q3 =>
    some (q3.1, q3.2)
