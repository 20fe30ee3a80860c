def fl_La_law_18 (L : Nat) (xs : Nat → Int32) : Nat → Option Nat → Option Nat → Int32 → mx_Mem → Option mx_Mem
  | 0, _, _, _, _ => none
  | n + 1, v1, v2, v3, mem => if ((Int32.ofNat L) - 7) < v3 then (some mem)
    else (Option.bind (mx_sx L xs v3) fun x2 =>
      Option.bind (some (x2 &&& 15)) fun x4 =>
      if x4 = 0 then (Option.bind (mx_sx L xs (v3 + 1)) fun x6 =>
        Option.bind (mx_sx L xs (v3 + 2)) fun x8 =>
        Option.bind (mx_sx L xs (v3 + 3)) fun x10 =>
        Option.bind (mx_sx L xs (v3 + 4)) fun x12 =>
        Option.bind (mx_sx L xs (v3 + 5)) fun x14 =>
        Option.bind (mx_sx L xs (v3 + 6)) fun x16 =>
        Option.bind (mx_c mem v1 0) fun a21 =>
        Option.bind (f_LR_line a21 x6 x8 ((x10.toInt64 <<< ((32 : Int32).toInt64 &&& 63)) ||| (x12.toInt64 &&& 4294967295)) ((x14.toInt64 <<< ((32 : Int32).toInt64 &&& 63)) ||| (x16.toInt64 &&& 4294967295)) mem) fun q18 =>
        Option.bind (mx_sx L xs (v3 + 1)) fun x23 =>
        Option.bind (mx_sx L xs (v3 + 2)) fun x25 =>
        Option.bind (mx_sx L xs (v3 + 3)) fun x27 =>
        Option.bind (mx_sx L xs (v3 + 4)) fun x29 =>
        Option.bind (mx_sx L xs (v3 + 5)) fun x31 =>
        Option.bind (mx_sx L xs (v3 + 6)) fun x33 =>
        Option.bind (mx_c q18.2 v2 4) fun a38 =>
        Option.bind (f_Mo_line a38 x23 x25 ((x27.toInt64 <<< ((32 : Int32).toInt64 &&& 63)) ||| (x29.toInt64 &&& 4294967295)) ((x31.toInt64 <<< ((32 : Int32).toInt64 &&& 63)) ||| (x33.toInt64 &&& 4294967295)) q18.2) fun q35 =>
        if q18.1 = q35.1 then (fl_La_law_18 L xs n v1 v2 (v3 + 7) q35.2)
        else (none))
      else if x4 = 1 then (Option.bind (mx_sx L xs (v3 + 1)) fun x6 =>
        Option.bind (mx_sx L xs (v3 + 2)) fun x8 =>
        Option.bind (mx_sx L xs (v3 + 3)) fun x10 =>
        Option.bind (mx_sx L xs (v3 + 4)) fun x12 =>
        Option.bind (mx_sx L xs (v3 + 5)) fun x14 =>
        Option.bind (mx_c mem v1 0) fun a19 =>
        Option.bind (f_LR_load a19 x6 x8 ((x10.toInt64 <<< ((32 : Int32).toInt64 &&& 63)) ||| (x12.toInt64 &&& 4294967295)) x14 mem) fun q16 =>
        Option.bind (mx_sx L xs (v3 + 1)) fun x21 =>
        Option.bind (mx_sx L xs (v3 + 2)) fun x23 =>
        Option.bind (mx_sx L xs (v3 + 3)) fun x25 =>
        Option.bind (mx_sx L xs (v3 + 4)) fun x27 =>
        Option.bind (mx_sx L xs (v3 + 5)) fun x29 =>
        Option.bind (mx_c q16.2 v2 4) fun a34 =>
        Option.bind (f_Mo_load a34 x21 x23 ((x25.toInt64 <<< ((32 : Int32).toInt64 &&& 63)) ||| (x27.toInt64 &&& 4294967295)) x29 q16.2) fun q31 =>
        if q16.1 = q31.1 then (fl_La_law_18 L xs n v1 v2 (v3 + 7) q31.2)
        else (none))
      else if x4 = 2 then (Option.bind (mx_sx L xs (v3 + 1)) fun x6 =>
        Option.bind (mx_sx L xs (v3 + 2)) fun x8 =>
        Option.bind (mx_sx L xs (v3 + 3)) fun x10 =>
        Option.bind (mx_sx L xs (v3 + 4)) fun x12 =>
        Option.bind (mx_sx L xs (v3 + 5)) fun x14 =>
        Option.bind (mx_c mem v1 0) fun a19 =>
        Option.bind (f_LR_option a19 x6 x8 x10 ((x12.toInt64 <<< ((32 : Int32).toInt64 &&& 63)) ||| (x14.toInt64 &&& 4294967295)) mem) fun q16 =>
        Option.bind (mx_sx L xs (v3 + 1)) fun x21 =>
        Option.bind (mx_sx L xs (v3 + 2)) fun x23 =>
        Option.bind (mx_sx L xs (v3 + 3)) fun x25 =>
        Option.bind (mx_sx L xs (v3 + 4)) fun x27 =>
        Option.bind (mx_sx L xs (v3 + 5)) fun x29 =>
        Option.bind (mx_c q16.2 v2 4) fun a34 =>
        Option.bind (f_Mo_option a34 x21 x23 x25 ((x27.toInt64 <<< ((32 : Int32).toInt64 &&& 63)) ||| (x29.toInt64 &&& 4294967295)) q16.2) fun q31 =>
        if q16.1 = q31.1 then (fl_La_law_18 L xs n v1 v2 (v3 + 7) q31.2)
        else (none))
      else if x4 = 3 then (Option.bind (mx_sx L xs (v3 + 1)) fun x6 =>
        Option.bind (mx_sx L xs (v3 + 2)) fun x8 =>
        Option.bind (mx_sx L xs (v3 + 3)) fun x10 =>
        Option.bind (mx_c mem v1 0) fun a15 =>
        Option.bind (f_LR_waits a15 x6 ((x8.toInt64 <<< ((32 : Int32).toInt64 &&& 63)) ||| (x10.toInt64 &&& 4294967295)) mem) fun q12 =>
        Option.bind (mx_sx L xs (v3 + 1)) fun x17 =>
        Option.bind (mx_sx L xs (v3 + 2)) fun x19 =>
        Option.bind (mx_sx L xs (v3 + 3)) fun x21 =>
        Option.bind (mx_c q12.2 v2 4) fun a26 =>
        Option.bind (f_Mo_waits a26 x17 ((x19.toInt64 <<< ((32 : Int32).toInt64 &&& 63)) ||| (x21.toInt64 &&& 4294967295)) q12.2) fun q23 =>
        if q12.1 = q23.1 then (fl_La_law_18 L xs n v1 v2 (v3 + 7) q23.2)
        else (none))
      else if x4 = 4 then (Option.bind (mx_sx L xs (v3 + 1)) fun x6 =>
        Option.bind (mx_sx L xs (v3 + 2)) fun x8 =>
        Option.bind (mx_sx L xs (v3 + 3)) fun x10 =>
        Option.bind (mx_c mem v1 0) fun a15 =>
        Option.bind (f_LR_late a15 x6 ((x8.toInt64 <<< ((32 : Int32).toInt64 &&& 63)) ||| (x10.toInt64 &&& 4294967295)) mem) fun q12 =>
        Option.bind (mx_sx L xs (v3 + 1)) fun x17 =>
        Option.bind (mx_sx L xs (v3 + 2)) fun x19 =>
        Option.bind (mx_sx L xs (v3 + 3)) fun x21 =>
        Option.bind (mx_c q12.2 v2 4) fun a26 =>
        Option.bind (f_Mo_late a26 x17 ((x19.toInt64 <<< ((32 : Int32).toInt64 &&& 63)) ||| (x21.toInt64 &&& 4294967295)) q12.2) fun q23 =>
        if q12.1 = q23.1 then (fl_La_law_18 L xs n v1 v2 (v3 + 7) q23.2)
        else (none))
      else if x4 = 5 then (Option.bind (mx_sx L xs (v3 + 1)) fun x6 =>
        Option.bind (mx_sx L xs (v3 + 2)) fun x8 =>
        Option.bind (mx_sx L xs (v3 + 3)) fun x10 =>
        Option.bind (mx_c mem v1 0) fun a15 =>
        Option.bind (f_LR_tell a15 x6 ((x8.toInt64 <<< ((32 : Int32).toInt64 &&& 63)) ||| (x10.toInt64 &&& 4294967295)) mem) fun q12 =>
        Option.bind (mx_sx L xs (v3 + 1)) fun x17 =>
        Option.bind (mx_sx L xs (v3 + 2)) fun x19 =>
        Option.bind (mx_sx L xs (v3 + 3)) fun x21 =>
        Option.bind (mx_c q12.2 v2 4) fun a26 =>
        Option.bind (f_Mo_tell a26 x17 ((x19.toInt64 <<< ((32 : Int32).toInt64 &&& 63)) ||| (x21.toInt64 &&& 4294967295)) q12.2) fun q23 =>
        if q12.1 = q23.1 then (fl_La_law_18 L xs n v1 v2 (v3 + 7) q23.2)
        else (none))
      else if x4 = 6 then (Option.bind (mx_c mem v1 0) fun a9 =>
        Option.bind (f_LR_solve a9  mem) fun q6 =>
        Option.bind (mx_c q6.2 v2 4) fun a14 =>
        Option.bind (f_Mo_solve a14  q6.2) fun q11 =>
        if q6.1 = q11.1 then (fl_La_law_18 L xs n v1 v2 (v3 + 7) q11.2)
        else (none))
      else if x4 = 7 then (Option.bind (mx_sx L xs (v3 + 1)) fun x6 =>
        Option.bind (mx_c mem v1 0) fun a11 =>
        Option.bind (f_LR_chosen a11 x6 mem) fun q8 =>
        Option.bind (mx_sx L xs (v3 + 1)) fun x13 =>
        Option.bind (mx_c q8.2 v2 4) fun a18 =>
        Option.bind (f_Mo_chosen a18 x13 q8.2) fun q15 =>
        if q8.1 = q15.1 then (fl_La_law_18 L xs n v1 v2 (v3 + 7) q15.2)
        else (none))
      else if x4 = 8 then (Option.bind (mx_sx L xs (v3 + 1)) fun x6 =>
        Option.bind (mx_c mem v1 0) fun a11 =>
        Option.bind (f_LR_arrival a11 x6 mem) fun q8 =>
        Option.bind (mx_sx L xs (v3 + 1)) fun x13 =>
        Option.bind (mx_c q8.2 v2 4) fun a18 =>
        Option.bind (f_Mo_arrival a18 x13 q8.2) fun q15 =>
        if q8.1 = q15.1 then (fl_La_law_18 L xs n v1 v2 (v3 + 7) q15.2)
        else (none))
      else if x4 = 9 then (Option.bind (mx_sx L xs (v3 + 1)) fun x6 =>
        Option.bind (mx_c mem v1 0) fun a11 =>
        Option.bind (f_LR_departs a11 x6 mem) fun q8 =>
        Option.bind (mx_sx L xs (v3 + 1)) fun x13 =>
        Option.bind (mx_c q8.2 v2 4) fun a18 =>
        Option.bind (f_Mo_departs a18 x13 q8.2) fun q15 =>
        if q8.1 = q15.1 then (fl_La_law_18 L xs n v1 v2 (v3 + 7) q15.2)
        else (none))
      else if x4 = 10 then (Option.bind (mx_sx L xs (v3 + 1)) fun x6 =>
        Option.bind (mx_c mem v1 0) fun a11 =>
        Option.bind (f_LR_none a11 x6 mem) fun q8 =>
        Option.bind (mx_sx L xs (v3 + 1)) fun x13 =>
        Option.bind (mx_c q8.2 v2 4) fun a18 =>
        Option.bind (f_Mo_none a18 x13 q8.2) fun q15 =>
        if q8.1 = q15.1 then (fl_La_law_18 L xs n v1 v2 (v3 + 7) q15.2)
        else (none))
      else if x4 = 11 then (Option.bind (mx_c mem v1 0) fun a9 =>
        Option.bind (f_LR_acts a9  mem) fun q6 =>
        Option.bind (mx_c q6.2 v2 4) fun a14 =>
        Option.bind (f_Mo_acts a14  q6.2) fun q11 =>
        if q6.1 = q11.1 then (fl_La_law_18 L xs n v1 v2 (v3 + 7) q11.2)
        else (none))
      else (fl_La_law_18 L xs n v1 v2 (v3 + 7) mem))
def f_La_law (L : Nat) (xs : Nat → Int32) (mem : mx_Mem) : Option mx_Mem :=
    Option.bind (some (mx_n mem (.inr (0, [.null, .int 0, .null, .null, .int 0])))) fun m1 =>
    Option.bind (f_LR_init mem.1  m1) fun q3 =>
    Option.bind (some (mx_n q3 (.inr (4, [.int 0, .int 0, .null, .null, .null, .null, .null, .null, .null, .int 0, .null, .null, .null, .null, .null, .null, .null, .null, .null, .null, .null, .null, .null])))) fun m6 =>
    Option.bind (f_Mo_init q3.1  m6) fun q8 =>
    fl_La_law_18 L xs 513 (some mem.1) (some q3.1) 0 q8
