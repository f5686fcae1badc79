def D_M_init_0 (r0 : Nat) (n : Nat) (h : XH) : Option (Nat × XH) :=
  xb1 (some (va_up h (n + 1) (.inl (.int, (25, .inl (fun _ => 0)))))) fun h1 =>
  xb1 (xp h1 4 2 r0 (.ref (n + 1))) fun h3 =>
  xb1 (some (va_up h3 (n + 1 + 1) (.inl (.int, (25, .inl (fun _ => 0)))))) fun h5 =>
  xb1 (xp h5 4 3 r0 (.ref (n + 1 + 1))) fun h7 =>
  xb1 (some (va_up h7 (n + 1 + 1 + 1) (.inl (.int, (25, .inl (fun _ => 0)))))) fun h9 =>
  xb1 (xp h9 4 4 r0 (.ref (n + 1 + 1 + 1))) fun h11 =>
  xb1 (some (va_up h11 (n + 1 + 1 + 1 + 1) (.inl (.int, (25, .inl (fun _ => 0)))))) fun h13 =>
  xb1 (xp h13 4 5 r0 (.ref (n + 1 + 1 + 1 + 1))) fun h15 =>
  xb1 (some (va_up h15 (n + 1 + 1 + 1 + 1 + 1) (.inl (.int, (21, .inl (fun _ => 0)))))) fun h17 =>
  xb1 (xp h17 4 6 r0 (.ref (n + 1 + 1 + 1 + 1 + 1))) fun h19 =>
  xb1 (some (va_up h19 (n + 1 + 1 + 1 + 1 + 1 + 1) (.inl (.int, (21, .inl (fun _ => 0)))))) fun h21 =>
  xb1 (xp h21 4 7 r0 (.ref (n + 1 + 1 + 1 + 1 + 1 + 1))) fun h23 =>
  xb1 (some (va_up h23 (n + 1 + 1 + 1 + 1 + 1 + 1 + 1) (.inl (.int, (25, .inl (fun _ => 0)))))) fun h25 =>
  xb1 (xp h25 4 9 r0 (.ref (n + 1 + 1 + 1 + 1 + 1 + 1 + 1))) fun h27 =>
  xb1 (some (va_up h27 (n + 1 + 1 + 1 + 1 + 1 + 1 + 1 + 1) (.inl (.int, (25, .inl (fun _ => 0)))))) fun h29 =>
  xb1 (xp h29 4 10 r0 (.ref (n + 1 + 1 + 1 + 1 + 1 + 1 + 1 + 1))) fun h31 =>
  xb1 (some (va_up h31 (n + 1 + 1 + 1 + 1 + 1 + 1 + 1 + 1 + 1) (.inl (.int, (41, .inl (fun _ => 0)))))) fun h33 =>
  xb1 (xp h33 4 13 r0 (.ref (n + 1 + 1 + 1 + 1 + 1 + 1 + 1 + 1 + 1))) fun h35 =>
  xb1 (some (va_up h35 (n + 1 + 1 + 1 + 1 + 1 + 1 + 1 + 1 + 1 + 1) (.inl (.int, (984, .inl (fun _ => 0)))))) fun h37 =>
  xb1 (xp h37 4 14 r0 (.ref (n + 1 + 1 + 1 + 1 + 1 + 1 + 1 + 1 + 1 + 1))) fun h39 =>
  xb1 (some (va_up h39 (n + 1 + 1 + 1 + 1 + 1 + 1 + 1 + 1 + 1 + 1 + 1) (.inl (.int, (984, .inl (fun _ => 0)))))) fun h41 =>
  xb1 (xp h41 4 15 r0 (.ref (n + 1 + 1 + 1 + 1 + 1 + 1 + 1 + 1 + 1 + 1 + 1))) fun h43 =>
  xb1 (some (va_up h43 (n + 1 + 1 + 1 + 1 + 1 + 1 + 1 + 1 + 1 + 1 + 1 + 1) (.inl (.int, (1025, .inl (fun _ => 0)))))) fun h45 =>
  xb1 (xp h45 4 16 r0 (.ref (n + 1 + 1 + 1 + 1 + 1 + 1 + 1 + 1 + 1 + 1 + 1 + 1))) fun h47 =>
  xb1 (some (va_up h47 (n + 1 + 1 + 1 + 1 + 1 + 1 + 1 + 1 + 1 + 1 + 1 + 1 + 1) (.inl (.int, (984, .inl (fun _ => 0)))))) fun h49 =>
  xb1 (xp h49 4 17 r0 (.ref (n + 1 + 1 + 1 + 1 + 1 + 1 + 1 + 1 + 1 + 1 + 1 + 1 + 1))) fun h51 =>
  xb1 (some (va_up h51 (n + 1 + 1 + 1 + 1 + 1 + 1 + 1 + 1 + 1 + 1 + 1 + 1 + 1 + 1) (.inl (.int, (25, .inl (fun _ => 0)))))) fun h53 =>
  xb1 (xp h53 4 18 r0 (.ref (n + 1 + 1 + 1 + 1 + 1 + 1 + 1 + 1 + 1 + 1 + 1 + 1 + 1 + 1))) fun h55 =>
  some (n + 1 + 1 + 1 + 1 + 1 + 1 + 1 + 1 + 1 + 1 + 1 + 1 + 1 + 1, h55)
def X_M_init (r0 : Nat) (n : Nat) (h : XH) : Option (Nat × XH) := D_M_init_0 r0 n h
def D_M_isIn_18 (s0 : Int32) (h : XH) : Option (Int32) :=
  xchk (xzb s0) (some s0)
def D_M_isIn_17 (h : XH) : Option (Int32) :=
  D_M_isIn_18 (0 : Int32) h
def D_M_isIn_0 (x0 : Int64) (x2 : Int64) (x4 : Int64) (h : XH) : Option (Int32) :=
  if (lg_cmp x0 x2) < 0 then
    D_M_isIn_17 h
  else
    if 0 < (lg_cmp x0 x4) then
      D_M_isIn_17 h
    else
      D_M_isIn_18 (1 : Int32) h
def X_M_isIn (x0 : Int64) (x2 : Int64) (x4 : Int64) (h : XH) : Option (Int32) := D_M_isIn_0 x0 x2 x4 h
def D_M_isRunnable_0 (r0 : Nat) (x1 : Int32) (h : XH) : Option (Int32) :=
  xb1 (xgI h 4 1 r0) fun v2 =>
  xb1 (X_M_isIn (x1.toInt64) (1 : Int64) (v2.toInt64) h) fun v3 =>
  xchk (xzb v3) (some v3)
def X_M_isRunnable (r0 : Nat) (x1 : Int32) (h : XH) : Option (Int32) := D_M_isRunnable_0 r0 x1 h
def D_M_runnable_41 (h : XH) : Option (Int32 × XH) :=
  some ((-2 : Int32), h)
def D_M_runnable_0 (r0 : Nat) (x1 : Int32) (x2 : Int32) (x3 : Int32) (h : XH) : Option (Int32 × XH) :=
  xb1 (xp h 4 0 r0 (.int (0 : Int32))) fun h1 =>
  xb1 (X_M_isIn (x1.toInt64) (0 : Int64) (1000 : Int64) h1) fun v3 =>
  if v3 = 0 then
    D_M_runnable_41 h1
  else
    xb1 (X_M_isIn (x2.toInt64) (1 : Int64) (4 : Int64) h1) fun v6 =>
    if v6 = 0 then
      D_M_runnable_41 h1
    else
      xb1 (X_M_isIn (x3.toInt64) (0 : Int64) (100000 : Int64) h1) fun v9 =>
      if v9 = 0 then
        D_M_runnable_41 h1
      else
        xb1 (xgI h1 4 1 r0) fun v13 =>
        if v13 = (24 : Int32) then
          some ((-4 : Int32), h1)
        else
          xb1 (xgI h1 4 1 r0) fun v16 =>
          xb1 (xp h1 4 1 r0 (.int (v16 + (1 : Int32)))) fun h17 =>
          xb1 (xgR h17 4 2 r0) fun q20 =>
          xb1 (xgI h17 4 1 r0) fun v22 =>
          xb1 (xaS h17 q20 v22 x1) fun h23 =>
          xb1 (xgR h23 4 3 r0) fun q26 =>
          xb1 (xgI h23 4 1 r0) fun v28 =>
          xb1 (xaS h23 q26 v28 x2) fun h29 =>
          xb1 (xgR h29 4 4 r0) fun q32 =>
          xb1 (xgI h29 4 1 r0) fun v34 =>
          xb1 (xaS h29 q32 v34 x3) fun h35 =>
          xb1 (xp h35 4 11 r0 (.int (0 : Int32))) fun h37 =>
          xb1 (xgI h37 4 1 r0) fun v40 =>
          some (v40, h37)
def X_M_runnable (r0 : Nat) (x1 : Int32) (x2 : Int32) (x3 : Int32) (h : XH) : Option (Int32 × XH) := D_M_runnable_0 r0 x1 x2 x3 h
def D_M_measure_113 (k35 : Nat → Int32 → XH → Option (XH)) (k45 : Nat → Int32 → Int32 → XH → Option (XH)) (k56 : Nat → Int32 → Int32 → Int32 → XH → Option (XH)) (r0 : Nat) (x2 : Int32) (x3 : Int32) (x4 : Int32) (h : XH) : Option (XH) :=
  k56 r0 x2 x3 (x4 + 1) h
def D_M_measure_56 (k35 : Nat → Int32 → XH → Option (XH)) (k45 : Nat → Int32 → Int32 → XH → Option (XH)) : Nat → Nat → Int32 → Int32 → Int32 → XH → Option (XH)
  | 0, _, _, _, _, _ => none
  | fu + 1, r0, x2, x3, x4, h =>
  xb1 (xgI h 4 1 r0) fun v2 =>
  if v2 < x4 then
    k45 r0 x2 (x3 + 1) h
  else
    xb1 (xgR h 4 5 r0) fun q5 =>
    xb1 (xaI h q5 x4) fun v6 =>
    if ((v6 >>> (x3 &&& 31)) &&& (1 : Int32)) = (1 : Int32) then
      xb1 (xgR h 4 10 r0) fun q10 =>
      xb1 (xaI h q10 x4) fun v11 =>
      xb1 (xgR h 4 10 r0) fun q14 =>
      xb1 (xaI h q14 x3) fun v15 =>
      if v15 ≤ (v11 + (1 : Int32)) then
        D_M_measure_113 k35 k45 (D_M_measure_56 k35 k45 fu) r0 x2 x3 x4 h
      else
        xb1 (xgR h 4 10 r0) fun q19 =>
        xb1 (xgR h 4 10 r0) fun q21 =>
        xb1 (xaI h q21 x4) fun v22 =>
        xb1 (xaS h q19 x3 (v22 + (1 : Int32))) fun h24 =>
        D_M_measure_113 k35 k45 (D_M_measure_56 k35 k45 fu) r0 x2 x3 x4 h24
    else
      D_M_measure_113 k35 k45 (D_M_measure_56 k35 k45 fu) r0 x2 x3 x4 h
def D_M_measure_45 (k35 : Nat → Int32 → XH → Option (XH)) : Nat → Nat → Int32 → Int32 → XH → Option (XH)
  | 0, _, _, _, _ => none
  | fu + 1, r0, x2, x3, h =>
  xb1 (xgI h 4 1 r0) fun v2 =>
  if v2 < x3 then
    k35 r0 (x2 + 1) h
  else
    D_M_measure_56 k35 (D_M_measure_45 k35 fu) 5000 r0 x2 x3 (1 : Int32) h
def D_M_measure_35 : Nat → Nat → Int32 → XH → Option (XH)
  | 0, _, _, _ => none
  | fu + 1, r0, x2, h =>
  xb1 (xgI h 4 1 r0) fun v2 =>
  if v2 ≤ x2 then
    some h
  else
    D_M_measure_45 (D_M_measure_35 fu) 5000 r0 x2 (1 : Int32) h
def D_M_measure_26 (k2 : Nat → Int32 → Int32 → XH → Option (XH)) (r0 : Nat) (x1 : Int32) (x2 : Int32) (s0 : Int32) (s1 : Int32) (s2 : Nat) (h : XH) : Option (XH) :=
  xb1 (xaS h s2 s1 s0) fun h1 =>
  k2 r0 x1 (x2 + 1) h1
def D_M_measure_2 : Nat → Nat → Int32 → Int32 → XH → Option (XH)
  | 0, _, _, _, _ => none
  | fu + 1, r0, x1, x2, h =>
  xb1 (xgI h 4 1 r0) fun v2 =>
  if v2 < x2 then
    D_M_measure_35 5000 r0 (0 : Int32) h
  else
    xb1 (xgR h 4 10 r0) fun q5 =>
    if x2 = x1 then
      D_M_measure_26 (D_M_measure_2 fu) r0 x1 x2 (0 : Int32) x2 q5 h
    else
      D_M_measure_26 (D_M_measure_2 fu) r0 x1 x2 (99 : Int32) x2 q5 h
def D_M_measure_0 (r0 : Nat) (x1 : Int32) (h : XH) : Option (XH) :=
  D_M_measure_2 5000 r0 x1 (1 : Int32) h
def X_M_measure (r0 : Nat) (x1 : Int32) (h : XH) : Option (XH) := D_M_measure_0 r0 x1 h
def D_M_tellRing_60 (k19 : Nat → Int32 → XH → Option (XH)) (k30 : Nat → Int32 → Int32 → XH → Option (XH)) (r0 : Nat) (x2 : Int32) (x3 : Int32) (h : XH) : Option (XH) :=
  k30 r0 x2 (x3 + 1) h
def D_M_tellRing_30 (k19 : Nat → Int32 → XH → Option (XH)) : Nat → Nat → Int32 → Int32 → XH → Option (XH)
  | 0, _, _, _, _ => none
  | fu + 1, r0, x2, x3, h =>
  xb1 (xgR h 4 5 r0) fun q2 =>
  xb1 (xaI h q2 x3) fun v3 =>
  if ((v3 >>> (x2 &&& 31)) &&& (1 : Int32)) = 0 then
    D_M_tellRing_60 k19 (D_M_tellRing_30 k19 fu) r0 x2 x3 h
  else
    xb1 (xgR h 4 10 r0) fun q7 =>
    xb1 (xaI h q7 x3) fun v8 =>
    xb1 (xgR h 4 10 r0) fun q11 =>
    xb1 (xaI h q11 x2) fun v12 =>
    if v8 = (v12 - (1 : Int32)) then
      xb1 (xgR h 4 9 r0) fun q16 =>
      xb1 (xgI h 4 8 r0) fun v18 =>
      xb1 (xaS h q16 v18 x3) fun h19 =>
      xb1 (xgI h19 4 8 r0) fun v22 =>
      xb1 (xp h19 4 8 r0 (.int (v22 + (1 : Int32)))) fun h23 =>
      k19 r0 x3 h23
    else
      D_M_tellRing_60 k19 (D_M_tellRing_30 k19 fu) r0 x2 x3 h
def D_M_tellRing_19 : Nat → Nat → Int32 → XH → Option (XH)
  | 0, _, _, _ => none
  | fu + 1, r0, x2, h =>
  xb1 (xgR h 4 10 r0) fun q2 =>
  xb1 (xaI h q2 x2) fun v3 =>
  if v3 ≤ 0 then
    some h
  else
    D_M_tellRing_30 (D_M_tellRing_19 fu) 5000 r0 x2 (1 : Int32) h
def D_M_tellRing_0 (r0 : Nat) (x1 : Int32) (h : XH) : Option (XH) :=
  xb1 (xp h 4 8 r0 (.int (0 : Int32))) fun h1 =>
  xb1 (xgR h1 4 9 r0) fun q4 =>
  xb1 (xaS h1 q4 (0 : Int32) x1) fun h5 =>
  xb1 (xp h5 4 8 r0 (.int (1 : Int32))) fun h7 =>
  D_M_tellRing_19 5000 r0 x1 h7
def X_M_tellRing (r0 : Nat) (x1 : Int32) (h : XH) : Option (XH) := D_M_tellRing_0 r0 x1 h
def D_M_needs_21 (h : XH) : Option (Int32 × XH) :=
  some ((-1 : Int32), h)
def D_M_needs_0 (r0 : Nat) (x1 : Int32) (x2 : Int32) (x3 : Int32) (h : XH) : Option (Int32 × XH) :=
  xb1 (xp h 4 0 r0 (.int (0 : Int32))) fun h1 =>
  xchk (xis h1 4 r0) <|
  xb1 (X_M_isRunnable r0 x1 h1) fun v3 =>
  if v3 = 0 then
    D_M_needs_21 h1
  else
    xchk (xis h1 4 r0) <|
    xb1 (X_M_isRunnable r0 x2 h1) fun v7 =>
    if v7 = 0 then
      D_M_needs_21 h1
    else
      if x3 = 0 then
        xchk (xis h1 4 r0) <|
        xb1 (X_M_measure r0 x1 h1) fun h12 =>
        xb1 (xgR h12 4 10 r0) fun q16 =>
        xb1 (xaI h12 q16 x2) fun v17 =>
        if (99 : Int32) ≤ v17 then
          xb1 (xp h12 4 11 r0 (.int (0 : Int32))) fun h20 =>
          xb1 (xgR h20 4 5 r0) fun q23 =>
          xb1 (xaI h20 q23 x2) fun v24 =>
          xb1 (xaS h20 q23 x2 (v24 ||| ((1 : Int32) <<< (x1 &&& 31)))) fun h26 =>
          some ((1 : Int32), h26)
        else
          xchk (xis h12 4 r0) <|
          xb1 (X_M_tellRing r0 x2 h12) fun h28 =>
          some ((0 : Int32), h28)
      else
        xb1 (xp h1 4 11 r0 (.int (0 : Int32))) fun h31 =>
        some ((1 : Int32), h31)
def X_M_needs (r0 : Nat) (x1 : Int32) (x2 : Int32) (x3 : Int32) (h : XH) : Option (Int32 × XH) := D_M_needs_0 r0 x1 x2 x3 h
def D_M_ring_27 (s0 : Int32) (h : XH) : Option (Int32 × XH) :=
  some (s0, h)
def D_M_ring_26 (h : XH) : Option (Int32 × XH) :=
  D_M_ring_27 (0 : Int32) h
def D_M_ring_0 (r0 : Nat) (x1 : Int32) (h : XH) : Option (Int32 × XH) :=
  xb1 (xp h 4 0 r0 (.int (0 : Int32))) fun h1 =>
  if x1 < 0 then
    D_M_ring_26 h1
  else
    xb1 (xgI h1 4 8 r0) fun v5 =>
    if v5 ≤ x1 then
      D_M_ring_26 h1
    else
      xb1 (xgR h1 4 9 r0) fun q8 =>
      xb1 (xaI h1 q8 x1) fun v9 =>
      D_M_ring_27 v9 h1
def X_M_ring (r0 : Nat) (x1 : Int32) (h : XH) : Option (Int32 × XH) := D_M_ring_0 r0 x1 h
def D_M_area_127 (k92 : Nat → Int32 → Int32 → Int32 → XH → Option (Int32 × XH)) (r0 : Nat) (x4 : Int32) (x6 : Int32) (s0 : Int32) (s1 : Int32) (h : XH) : Option (Int32 × XH) :=
  k92 r0 x4 (s1 + s0) (x6 + 1) h
def D_M_area_92 : Nat → Nat → Int32 → Int32 → Int32 → XH → Option (Int32 × XH)
  | 0, _, _, _, _, _ => none
  | fu + 1, r0, x4, x5, x6, h =>
  if (20 : Int32) < x6 then
    some (x5, h)
  else
    xb1 (xgR h 4 6 r0) fun q3 =>
    xb1 (xaI h q3 x6) fun v4 =>
    xb1 (xgR h 4 7 r0) fun q7 =>
    xb1 (xaI h q7 x6) fun v8 =>
    if ((v4 ||| v8) &&& x4) = 0 then
      D_M_area_127 (D_M_area_92 fu) r0 x4 x6 (0 : Int32) x5 h
    else
      D_M_area_127 (D_M_area_92 fu) r0 x4 x6 (1 : Int32) x5 h
def D_M_area_86 (r0 : Nat) (x4 : Int32) (h : XH) : Option (Int32 × XH) :=
  D_M_area_92 5000 r0 x4 (0 : Int32) (1 : Int32) h
def D_M_area_31 (r0 : Nat) (x1 : Int32) (x2 : Int32) (s0 : Int32) (h : XH) : Option (Int32 × XH) :=
  xb1 (X_M_isIn (s0.toInt64) (1 : Int64) (20 : Int64) h) fun v1 =>
  if v1 = 0 then
    some ((-2 : Int32), h)
  else
    xb1 (xp h 4 11 r0 (.int (0 : Int32))) fun h4 =>
    if x2 ≤ 0 then
      xb1 (xgR h4 4 7 r0) fun q8 =>
      xb1 (xaI h4 q8 s0) fun v9 =>
      xb1 (xaS h4 q8 s0 (v9 ||| ((1 : Int32) <<< (x1 &&& 31)))) fun h11 =>
      D_M_area_86 r0 ((1 : Int32) <<< (x1 &&& 31)) h11
    else
      xb1 (xgR h4 4 6 r0) fun q14 =>
      xb1 (xaI h4 q14 s0) fun v15 =>
      xb1 (xaS h4 q14 s0 (v15 ||| ((1 : Int32) <<< (x1 &&& 31)))) fun h17 =>
      D_M_area_86 r0 ((1 : Int32) <<< (x1 &&& 31)) h17
def D_M_area_30 (r0 : Nat) (x1 : Int32) (x2 : Int32) (h : XH) : Option (Int32 × XH) :=
  D_M_area_31 r0 x1 x2 x2 h
def D_M_area_0 (r0 : Nat) (x1 : Int32) (x2 : Int32) (h : XH) : Option (Int32 × XH) :=
  xb1 (xp h 4 0 r0 (.int (0 : Int32))) fun h1 =>
  xchk (xis h1 4 r0) <|
  xb1 (X_M_isRunnable r0 x1 h1) fun v3 =>
  if v3 = 0 then
    some ((-1 : Int32), h1)
  else
    if 0 ≤ x2 then
      D_M_area_30 r0 x1 x2 h1
    else
      if x2 < (-20 : Int32) then
        D_M_area_30 r0 x1 x2 h1
      else
        D_M_area_31 r0 x1 x2 (-x2) h1
def X_M_area (r0 : Nat) (x1 : Int32) (x2 : Int32) (h : XH) : Option (Int32 × XH) := D_M_area_0 r0 x1 x2 h
def D_M_behind_51 (k9 : Nat → Int32 → Int32 → XH → Option (Int32)) (k20 : Nat → Int32 → Int32 → Int32 → XH → Option (Int32)) (r0 : Nat) (x3 : Int32) (x4 : Int32) (s0 : Int32) (s1 : Int32) (h : XH) : Option (Int32) :=
  k20 r0 (s1 ||| s0) x3 (x4 + 1) h
def D_M_behind_20 (k9 : Nat → Int32 → Int32 → XH → Option (Int32)) : Nat → Nat → Int32 → Int32 → Int32 → XH → Option (Int32)
  | 0, _, _, _, _, _ => none
  | fu + 1, r0, x2, x3, x4, h =>
  xb1 (xgI h 4 1 r0) fun v2 =>
  if v2 < x4 then
    k9 r0 x2 (x3 + 1) h
  else
    if ((x2 >>> (x4 &&& 31)) &&& (1 : Int32)) = (1 : Int32) then
      xb1 (xgR h 4 5 r0) fun q6 =>
      xb1 (xaI h q6 x4) fun v7 =>
      D_M_behind_51 k9 (D_M_behind_20 k9 fu) r0 x3 x4 v7 x2 h
    else
      D_M_behind_51 k9 (D_M_behind_20 k9 fu) r0 x3 x4 (0 : Int32) x2 h
def D_M_behind_9 : Nat → Nat → Int32 → Int32 → XH → Option (Int32)
  | 0, _, _, _, _ => none
  | fu + 1, r0, x2, x3, h =>
  xb1 (xgI h 4 1 r0) fun v2 =>
  if v2 ≤ x3 then
    some x2
  else
    D_M_behind_20 (D_M_behind_9 fu) 5000 r0 x2 x3 (1 : Int32) h
def D_M_behind_0 (r0 : Nat) (x1 : Int32) (h : XH) : Option (Int32) :=
  xb1 (xgR h 4 5 r0) fun q2 =>
  xb1 (xaI h q2 x1) fun v3 =>
  D_M_behind_9 5000 r0 v3 (0 : Int32) h
def X_M_behind (r0 : Nat) (x1 : Int32) (h : XH) : Option (Int32) := D_M_behind_0 r0 x1 h
def D_M_addTask_59 (k29 : Nat → Int32 → Int32 → Int32 → Int32 → Int32 → XH → Option (XH)) (k37 : Nat → Int32 → Int32 → Int32 → Int32 → Int32 → Int32 → XH → Option (XH)) (r0 : Nat) (x1 : Int32) (x2 : Int32) (x4 : Int32) (x5 : Int32) (x6 : Int32) (x7 : Int32) (h : XH) : Option (XH) :=
  k37 r0 x1 x2 x4 x5 x6 (x7 + 1) h
def D_M_addTask_37 (k29 : Nat → Int32 → Int32 → Int32 → Int32 → Int32 → XH → Option (XH)) : Nat → Nat → Int32 → Int32 → Int32 → Int32 → Int32 → Int32 → XH → Option (XH)
  | 0, _, _, _, _, _, _, _, _ => none
  | fu + 1, r0, x1, x2, x4, x5, x6, x7, h =>
  if ((x6 >>> (x7 &&& 31)) &&& (1 : Int32)) = 0 then
    D_M_addTask_59 k29 (D_M_addTask_37 k29 fu) r0 x1 x2 x4 x5 x6 x7 h
  else
    xchk (xis h 4 r0) <|
    xb1 (X_M_behind r0 x7 h) fun v2 =>
    if (v2 &&& x6) = 0 then
      xb1 (xgR h 4 17 r0) fun q7 =>
      xb1 (xaS h q7 x5 x7) fun h8 =>
      xb1 (xgR h8 4 18 r0) fun q11 =>
      xb1 (xaS h8 q11 x7 (x4 + (1 : Int32))) fun h12 =>
      k29 r0 x1 x2 x4 (x5 + 1) (x6 &&& (((1 : Int32) <<< (x7 &&& 31)) ^^^ (-1 : Int32))) h12
    else
      D_M_addTask_59 k29 (D_M_addTask_37 k29 fu) r0 x1 x2 x4 x5 x6 x7 h
def D_M_addTask_29 : Nat → Nat → Int32 → Int32 → Int32 → Int32 → Int32 → XH → Option (XH)
  | 0, _, _, _, _, _, _, _ => none
  | fu + 1, r0, x1, x2, x4, x5, x6, h =>
  if x6 = 0 then
    xb1 (xgR h 4 14 r0) fun q3 =>
    xb1 (xaS h q3 x4 x1) fun h4 =>
    xb1 (xgR h4 4 15 r0) fun q7 =>
    xb1 (xaS h4 q7 x4 x2) fun h8 =>
    xb1 (xgR h8 4 16 r0) fun q11 =>
    xb1 (xaS h8 q11 (x4 + (1 : Int32)) x5) fun h12 =>
    xb1 (xgR h12 4 13 r0) fun q15 =>
    xb1 (xaI h12 q15 (0 : Int32)) fun v16 =>
    xb1 (xaS h12 q15 (0 : Int32) (v16 + (1 : Int32))) fun h18 =>
    some h18
  else
    D_M_addTask_37 (D_M_addTask_29 fu) 5000 r0 x1 x2 x4 x5 x6 (1 : Int32) h
def D_M_addTask_24 (r0 : Nat) (x1 : Int32) (x2 : Int32) (x3 : Int32) (x4 : Int32) (s0 : Int32) (h : XH) : Option (XH) :=
  D_M_addTask_29 5000 r0 x1 x2 x4 s0 x3 h
def D_M_addTask_0 (r0 : Nat) (x1 : Int32) (x2 : Int32) (x3 : Int32) (h : XH) : Option (XH) :=
  xb1 (xgR h 4 13 r0) fun q2 =>
  xb1 (xaI h q2 (0 : Int32)) fun v3 =>
  if v3 = 0 then
    D_M_addTask_24 r0 x1 x2 x3 v3 (0 : Int32) h
  else
    xb1 (xgR h 4 16 r0) fun q7 =>
    xb1 (xaI h q7 v3) fun v8 =>
    D_M_addTask_24 r0 x1 x2 x3 v3 v8 h
def X_M_addTask (r0 : Nat) (x1 : Int32) (x2 : Int32) (x3 : Int32) (h : XH) : Option (XH) := D_M_addTask_0 r0 x1 x2 x3 h
def D_M_with_45 (k5 : Nat → Int32 → Int32 → Int32 → Int32 → XH → Option (Int32)) (r0 : Nat) (x1 : Int32) (x2 : Int32) (x4 : Int32) (s0 : Int32) (s1 : Int32) (h : XH) : Option (Int32) :=
  k5 r0 x1 x2 (s1 ||| s0) (x4 + 1) h
def D_M_with_44 (k5 : Nat → Int32 → Int32 → Int32 → Int32 → XH → Option (Int32)) (r0 : Nat) (x1 : Int32) (x2 : Int32) (x4 : Int32) (s0 : Int32) (h : XH) : Option (Int32) :=
  D_M_with_45 k5 r0 x1 x2 x4 (0 : Int32) s0 h
def D_M_with_5 : Nat → Nat → Int32 → Int32 → Int32 → Int32 → XH → Option (Int32)
  | 0, _, _, _, _, _, _ => none
  | fu + 1, r0, x1, x2, x3, x4, h =>
  xb1 (xgI h 4 1 r0) fun v2 =>
  if v2 < x4 then
    some x3
  else
    xb1 (xgR h 4 3 r0) fun q5 =>
    xb1 (xaI h q5 x4) fun v6 =>
    if v6 = x1 then
      xb1 (xgR h 4 2 r0) fun q10 =>
      xb1 (xaI h q10 x4) fun v11 =>
      if v11 = x2 then
        D_M_with_45 (D_M_with_5 fu) r0 x1 x2 x4 ((1 : Int32) <<< (x4 &&& 31)) x3 h
      else
        D_M_with_44 (D_M_with_5 fu) r0 x1 x2 x4 x3 h
    else
      D_M_with_44 (D_M_with_5 fu) r0 x1 x2 x4 x3 h
def D_M_with_0 (r0 : Nat) (x1 : Int32) (x2 : Int32) (h : XH) : Option (Int32) :=
  D_M_with_5 5000 r0 x1 x2 (0 : Int32) (1 : Int32) h
def X_M_with (r0 : Nat) (x1 : Int32) (x2 : Int32) (h : XH) : Option (Int32) := D_M_with_0 r0 x1 x2 h
def D_M_tasksOn_103 (k4 : Nat → Int32 → Int32 → Int32 → XH → Option (Int32)) (r0 : Nat) (x1 : Int32) (x3 : Int32) (s0 : Int32) (s1 : Int32) (h : XH) : Option (Int32) :=
  k4 r0 x1 (s1 + s0) (x3 + 1) h
def D_M_tasksOn_84 (k4 : Nat → Int32 → Int32 → Int32 → XH → Option (Int32)) (k32 : Nat → Int32 → Int32 → Int32 → Int32 → Int32 → XH → Option (Int32)) (r0 : Nat) (x1 : Int32) (x2 : Int32) (x3 : Int32) (x5 : Int32) (s0 : Int32) (h : XH) : Option (Int32) :=
  k32 r0 x1 x2 x3 s0 (x5 + 1) h
def D_M_tasksOn_83 (k4 : Nat → Int32 → Int32 → Int32 → XH → Option (Int32)) (k32 : Nat → Int32 → Int32 → Int32 → Int32 → Int32 → XH → Option (Int32)) (r0 : Nat) (x1 : Int32) (x2 : Int32) (x3 : Int32) (x5 : Int32) (h : XH) : Option (Int32) :=
  D_M_tasksOn_84 k4 k32 r0 x1 x2 x3 x5 (0 : Int32) h
def D_M_tasksOn_79 (k4 : Nat → Int32 → Int32 → Int32 → XH → Option (Int32)) (k32 : Nat → Int32 → Int32 → Int32 → Int32 → Int32 → XH → Option (Int32)) (r0 : Nat) (x1 : Int32) (x2 : Int32) (x3 : Int32) (x5 : Int32) (h : XH) : Option (Int32) :=
  D_M_tasksOn_84 k4 k32 r0 x1 x2 x3 x5 (1 : Int32) h
def D_M_tasksOn_32 (k4 : Nat → Int32 → Int32 → Int32 → XH → Option (Int32)) : Nat → Nat → Int32 → Int32 → Int32 → Int32 → Int32 → XH → Option (Int32)
  | 0, _, _, _, _, _, _, _ => none
  | fu + 1, r0, x1, x2, x3, x4, x5, h =>
  if x3 ≤ x5 then
    if x4 = 0 then
      D_M_tasksOn_103 k4 r0 x1 x3 (0 : Int32) x2 h
    else
      D_M_tasksOn_103 k4 r0 x1 x3 (1 : Int32) x2 h
  else
    if x4 = 0 then
      D_M_tasksOn_83 k4 (D_M_tasksOn_32 k4 fu) r0 x1 x2 x3 x5 h
    else
      xb1 (xgR h 4 2 r0) fun q5 =>
      xb1 (xaI h q5 x3) fun v6 =>
      if v6 = 0 then
        D_M_tasksOn_79 k4 (D_M_tasksOn_32 k4 fu) r0 x1 x2 x3 x5 h
      else
        xb1 (xgR h 4 3 r0) fun q10 =>
        xb1 (xaI h q10 x5) fun v11 =>
        if v11 = x1 then
          xb1 (xgR h 4 2 r0) fun q15 =>
          xb1 (xaI h q15 x5) fun v16 =>
          xb1 (xgR h 4 2 r0) fun q19 =>
          xb1 (xaI h q19 x3) fun v20 =>
          if v16 = v20 then
            D_M_tasksOn_83 k4 (D_M_tasksOn_32 k4 fu) r0 x1 x2 x3 x5 h
          else
            D_M_tasksOn_79 k4 (D_M_tasksOn_32 k4 fu) r0 x1 x2 x3 x5 h
        else
          D_M_tasksOn_79 k4 (D_M_tasksOn_32 k4 fu) r0 x1 x2 x3 x5 h
def D_M_tasksOn_27 (k4 : Nat → Int32 → Int32 → Int32 → XH → Option (Int32)) (r0 : Nat) (x1 : Int32) (x2 : Int32) (x3 : Int32) (s0 : Int32) (h : XH) : Option (Int32) :=
  D_M_tasksOn_32 k4 5000 r0 x1 x2 x3 s0 (1 : Int32) h
def D_M_tasksOn_4 : Nat → Nat → Int32 → Int32 → Int32 → XH → Option (Int32)
  | 0, _, _, _, _, _ => none
  | fu + 1, r0, x1, x2, x3, h =>
  xb1 (xgI h 4 1 r0) fun v2 =>
  if v2 < x3 then
    some x2
  else
    xb1 (xgR h 4 3 r0) fun q5 =>
    xb1 (xaI h q5 x3) fun v6 =>
    if v6 = x1 then
      D_M_tasksOn_27 (D_M_tasksOn_4 fu) r0 x1 x2 x3 (1 : Int32) h
    else
      D_M_tasksOn_27 (D_M_tasksOn_4 fu) r0 x1 x2 x3 (0 : Int32) h
def D_M_tasksOn_0 (r0 : Nat) (x1 : Int32) (h : XH) : Option (Int32) :=
  D_M_tasksOn_4 5000 r0 x1 (0 : Int32) (1 : Int32) h
def X_M_tasksOn (r0 : Nat) (x1 : Int32) (h : XH) : Option (Int32) := D_M_tasksOn_0 r0 x1 h
def D_M_makeTasks_71 (k46 : Nat → Int32 → Int32 → XH → Option (XH)) (r0 : Nat) (x1 : Int32) (x2 : Int32) (h : XH) : Option (XH) :=
  k46 r0 x1 (x2 + 1) h
def D_M_makeTasks_46 : Nat → Nat → Int32 → Int32 → XH → Option (XH)
  | 0, _, _, _, _ => none
  | fu + 1, r0, x1, x2, h =>
  if (1000 : Int32) < x2 then
    some h
  else
    xchk (xis h 4 r0) <|
    xb1 (X_M_with r0 x1 x2 h) fun v2 =>
    if v2 = 0 then
      D_M_makeTasks_71 (D_M_makeTasks_46 fu) r0 x1 x2 h
    else
      xchk (xis h 4 r0) <|
      xb1 (X_M_addTask r0 x1 x2 v2 h) fun h6 =>
      D_M_makeTasks_71 (D_M_makeTasks_46 fu) r0 x1 x2 h6
def D_M_makeTasks_38 (k2 : Nat → Int32 → Int32 → XH → Option (XH)) (r0 : Nat) (x1 : Int32) (x2 : Int32) (h : XH) : Option (XH) :=
  k2 r0 x1 (x2 + 1) h
def D_M_makeTasks_2 : Nat → Nat → Int32 → Int32 → XH → Option (XH)
  | 0, _, _, _, _ => none
  | fu + 1, r0, x1, x2, h =>
  xb1 (xgI h 4 1 r0) fun v2 =>
  if v2 < x2 then
    D_M_makeTasks_46 5000 r0 x1 (1 : Int32) h
  else
    xb1 (xgR h 4 3 r0) fun q5 =>
    xb1 (xaI h q5 x2) fun v6 =>
    if v6 = x1 then
      xb1 (xgR h 4 2 r0) fun q10 =>
      xb1 (xaI h q10 x2) fun v11 =>
      if v11 = 0 then
        xchk (xis h 4 r0) <|
        xb1 (X_M_addTask r0 x1 (0 : Int32) ((1 : Int32) <<< (x2 &&& 31)) h) fun h14 =>
        D_M_makeTasks_38 (D_M_makeTasks_2 fu) r0 x1 x2 h14
      else
        D_M_makeTasks_38 (D_M_makeTasks_2 fu) r0 x1 x2 h
    else
      D_M_makeTasks_38 (D_M_makeTasks_2 fu) r0 x1 x2 h
def D_M_makeTasks_0 (r0 : Nat) (x1 : Int32) (h : XH) : Option (XH) :=
  D_M_makeTasks_2 5000 r0 x1 (1 : Int32) h
def X_M_makeTasks (r0 : Nat) (x1 : Int32) (h : XH) : Option (XH) := D_M_makeTasks_0 r0 x1 h
def D_M_keep_79 : Nat → Nat → Int32 → Int32 → XH → Option (XH)
  | 0, _, _, _, _ => none
  | fu + 1, r0, x1, x2, h =>
  if (25 : Int32) ≤ x2 then
    some h
  else
    xb1 (xgR h 4 16 r0) fun q3 =>
    xb1 (xgR h 4 16 r0) fun q5 =>
    xb1 (xaI h q5 x2) fun v6 =>
    xb1 (xaS h q3 (((25 : Int32) * x1) + x2) v6) fun h8 =>
    D_M_keep_79 fu r0 x1 (x2 + 1) h8
def D_M_keep_14 : Nat → Nat → Int32 → Int32 → XH → Option (XH)
  | 0, _, _, _, _ => none
  | fu + 1, r0, x1, x2, h =>
  if (24 : Int32) ≤ x2 then
    D_M_keep_79 5000 r0 x1 (0 : Int32) h
  else
    xb1 (xgR h 4 14 r0) fun q3 =>
    xb1 (xgR h 4 14 r0) fun q5 =>
    xb1 (xaI h q5 x2) fun v6 =>
    xb1 (xaS h q3 (((24 : Int32) * x1) + x2) v6) fun h8 =>
    xb1 (xgR h8 4 15 r0) fun q11 =>
    xb1 (xgR h8 4 15 r0) fun q13 =>
    xb1 (xaI h8 q13 x2) fun v14 =>
    xb1 (xaS h8 q11 (((24 : Int32) * x1) + x2) v14) fun h16 =>
    xb1 (xgR h16 4 17 r0) fun q19 =>
    xb1 (xgR h16 4 17 r0) fun q21 =>
    xb1 (xaI h16 q21 x2) fun v22 =>
    xb1 (xaS h16 q19 (((24 : Int32) * x1) + x2) v22) fun h24 =>
    D_M_keep_14 fu r0 x1 (x2 + 1) h24
def D_M_keep_0 (r0 : Nat) (x1 : Int32) (h : XH) : Option (XH) :=
  xb1 (xgR h 4 13 r0) fun q2 =>
  xb1 (xgR h 4 13 r0) fun q4 =>
  xb1 (xaI h q4 (0 : Int32)) fun v5 =>
  xb1 (xaS h q2 x1 v5) fun h7 =>
  D_M_keep_14 5000 r0 x1 (0 : Int32) h7
def X_M_keep (r0 : Nat) (x1 : Int32) (h : XH) : Option (XH) := D_M_keep_0 r0 x1 h
def D_M_build_93 (r0 : Nat) (h : XH) : Option (Int32 × XH) :=
  xb1 (xgR h 4 13 r0) fun q2 =>
  xb1 (xaI h q2 (0 : Int32)) fun v3 =>
  some (v3, h)
def D_M_build_45 : Nat → Nat → Int32 → XH → Option (Int32 × XH)
  | 0, _, _, _ => none
  | fu + 1, r0, x1, h =>
  if (4 : Int32) < x1 then
    xb1 (xp h 4 11 r0 (.int (1 : Int32))) fun h2 =>
    xb1 (xgI h2 4 12 r0) fun v5 =>
    xb1 (xp h2 4 12 r0 (.int (v5 + (1 : Int32)))) fun h6 =>
    xb1 (xgI h6 4 12 r0) fun v9 =>
    if (40 : Int32) < v9 then
      D_M_build_93 r0 h6
    else
      xb1 (xgI h6 4 12 r0) fun v12 =>
      xchk (xis h6 4 r0) <|
      xb1 (X_M_keep r0 v12 h6) fun h13 =>
      D_M_build_93 r0 h13
  else
    xchk (xis h 4 r0) <|
    xb1 (X_M_makeTasks r0 x1 h) fun h16 =>
    D_M_build_45 fu r0 (x1 + 1) h16
def D_M_build_12 : Nat → Nat → Int32 → XH → Option (Int32 × XH)
  | 0, _, _, _ => none
  | fu + 1, r0, x1, h =>
  if (4 : Int32) < x1 then
    xb1 (xgR h 4 13 r0) fun q3 =>
    xb1 (xaS h q3 (0 : Int32) (0 : Int32)) fun h4 =>
    D_M_build_45 5000 r0 (1 : Int32) h4
  else
    xchk (xis h 4 r0) <|
    xb1 (X_M_tasksOn r0 x1 h) fun v6 =>
    if v6 ≤ (12 : Int32) then
      D_M_build_12 fu r0 (x1 + 1) h
    else
      some ((-4 : Int32), h)
def D_M_build_0 (r0 : Nat) (h : XH) : Option (Int32 × XH) :=
  xb1 (xp h 4 0 r0 (.int (0 : Int32))) fun h1 =>
  xb1 (xp h1 4 11 r0 (.int (0 : Int32))) fun h3 =>
  D_M_build_12 5000 r0 (1 : Int32) h3
def X_M_build (r0 : Nat) (h : XH) : Option (Int32 × XH) := D_M_build_0 r0 h
def D_M_from_19 (s0 : Int32) (h : XH) : Option (Int32) :=
  some s0
def D_M_from_0 (r0 : Nat) (x1 : Int32) (x2 : Int32) (h : XH) : Option (Int32) :=
  if x2 = 0 then
    D_M_from_19 (0 : Int32) h
  else
    xb1 (xgR h 4 16 r0) fun q3 =>
    xb1 (xaI h q3 (((25 : Int32) * x1) + x2)) fun v4 =>
    D_M_from_19 v4 h
def X_M_from (r0 : Nat) (x1 : Int32) (x2 : Int32) (h : XH) : Option (Int32) := D_M_from_0 r0 x1 x2 h
def D_M_isTask_0 (r0 : Nat) (x1 : Int32) (h : XH) : Option (Int32) :=
  xb1 (xgR h 4 13 r0) fun q2 =>
  xb1 (xaI h q2 (0 : Int32)) fun v3 =>
  xb1 (X_M_isIn (x1.toInt64) (1 : Int64) (v3.toInt64) h) fun v5 =>
  xchk (xzb v5) (some v5)
def X_M_isTask (r0 : Nat) (x1 : Int32) (h : XH) : Option (Int32) := D_M_isTask_0 r0 x1 h
def D_M_task_35 (s0 : Int32) (h : XH) : Option (Int32 × XH) :=
  some (s0, h)
def D_M_task_0 (r0 : Nat) (x1 : Int32) (h : XH) : Option (Int32 × XH) :=
  xb1 (xp h 4 0 r0 (.int (0 : Int32))) fun h1 =>
  xchk (xis h1 4 r0) <|
  xb1 (X_M_isRunnable r0 x1 h1) fun v3 =>
  if v3 = 0 then
    D_M_task_35 (-1 : Int32) h1
  else
    xb1 (xgI h1 4 11 r0) fun v8 =>
    if v8 = 0 then
      D_M_task_35 (-3 : Int32) h1
    else
      xb1 (xgR h1 4 18 r0) fun q11 =>
      xb1 (xaI h1 q11 x1) fun v12 =>
      D_M_task_35 v12 h1
def X_M_task (r0 : Nat) (x1 : Int32) (h : XH) : Option (Int32 × XH) := D_M_task_0 r0 x1 h
def D_M_order_69 (s0 : Int32) (h : XH) : Option (Int32 × XH) :=
  some (s0, h)
def D_M_order_68 (h : XH) : Option (Int32 × XH) :=
  D_M_order_69 (0 : Int32) h
def D_M_order_0 (r0 : Nat) (x1 : Int32) (x2 : Int32) (h : XH) : Option (Int32 × XH) :=
  xb1 (xp h 4 0 r0 (.int (0 : Int32))) fun h1 =>
  xb1 (xgI h1 4 11 r0) fun v4 =>
  if v4 = 0 then
    some ((-3 : Int32), h1)
  else
    xchk (xis h1 4 r0) <|
    xb1 (X_M_isTask r0 x1 h1) fun v6 =>
    if v6 = 0 then
      some ((-1 : Int32), h1)
    else
      xb1 (xgR h1 4 16 r0) fun q11 =>
      xb1 (xaI h1 q11 x1) fun v12 =>
      xchk (xis h1 4 r0) <|
      xb1 (X_M_from r0 (0 : Int32) (x1 - (1 : Int32)) h1) fun v14 =>
      if x2 < 0 then
        D_M_order_68 h1
      else
        if (v12 - v14) ≤ x2 then
          D_M_order_68 h1
        else
          xb1 (xgR h1 4 17 r0) fun q20 =>
          xchk (xis h1 4 r0) <|
          xb1 (X_M_from r0 (0 : Int32) (x1 - (1 : Int32)) h1) fun v21 =>
          xb1 (xaI h1 q20 (v21 + x2)) fun v24 =>
          D_M_order_69 v24 h1
def X_M_order (r0 : Nat) (x1 : Int32) (x2 : Int32) (h : XH) : Option (Int32 × XH) := D_M_order_0 r0 x1 x2 h
def D_M_rankOf_39 (k4 : Nat → Int32 → Int32 → Int32 → XH → Option (Int32)) (r0 : Nat) (x1 : Int32) (x3 : Int32) (s0 : Int32) (s1 : Int32) (h : XH) : Option (Int32) :=
  k4 r0 x1 (s1 + s0) (x3 + 1) h
def D_M_rankOf_4 : Nat → Nat → Int32 → Int32 → Int32 → XH → Option (Int32)
  | 0, _, _, _, _, _ => none
  | fu + 1, r0, x1, x2, x3, h =>
  xb1 (xgR h 4 13 r0) fun q2 =>
  xb1 (xaI h q2 (0 : Int32)) fun v3 =>
  if v3 < x3 then
    some x2
  else
    xb1 (xgR h 4 14 r0) fun q7 =>
    xb1 (xaI h q7 (x3 - (1 : Int32))) fun v8 =>
    xb1 (xgR h 4 14 r0) fun q11 =>
    xb1 (xaI h q11 (x1 - (1 : Int32))) fun v12 =>
    if v8 = v12 then
      D_M_rankOf_39 (D_M_rankOf_4 fu) r0 x1 x3 (1 : Int32) x2 h
    else
      D_M_rankOf_39 (D_M_rankOf_4 fu) r0 x1 x3 (0 : Int32) x2 h
def D_M_rankOf_0 (r0 : Nat) (x1 : Int32) (h : XH) : Option (Int32) :=
  D_M_rankOf_4 5000 r0 x1 (0 : Int32) x1 h
def X_M_rankOf (r0 : Nat) (x1 : Int32) (h : XH) : Option (Int32) := D_M_rankOf_0 r0 x1 h
def D_M_rank_34 (s0 : Int32) (h : XH) : Option (Int32 × XH) :=
  some (s0, h)
def D_M_rank_0 (r0 : Nat) (x1 : Int32) (h : XH) : Option (Int32 × XH) :=
  xb1 (xp h 4 0 r0 (.int (0 : Int32))) fun h1 =>
  xb1 (xgI h1 4 11 r0) fun v4 =>
  if v4 = 0 then
    D_M_rank_34 (-3 : Int32) h1
  else
    xchk (xis h1 4 r0) <|
    xb1 (X_M_isTask r0 x1 h1) fun v6 =>
    if v6 = 0 then
      D_M_rank_34 (-1 : Int32) h1
    else
      xchk (xis h1 4 r0) <|
      xb1 (X_M_rankOf r0 x1 h1) fun v10 =>
      D_M_rank_34 v10 h1
def X_M_rank (r0 : Nat) (x1 : Int32) (h : XH) : Option (Int32 × XH) := D_M_rank_0 r0 x1 h
def D_M_isCopied_114 (k4 : Nat → Int32 → Int32 → Int32 → XH → Option (Int32)) (k15 : Nat → Int32 → Int32 → Int32 → Int32 → XH → Option (Int32)) (r0 : Nat) (x1 : Int32) (x3 : Int32) (x4 : Int32) (s0 : Int32) (h : XH) : Option (Int32) :=
  k15 r0 x1 s0 x3 (x4 + 1) h
def D_M_isCopied_113 (k4 : Nat → Int32 → Int32 → Int32 → XH → Option (Int32)) (k15 : Nat → Int32 → Int32 → Int32 → Int32 → XH → Option (Int32)) (r0 : Nat) (x1 : Int32) (x3 : Int32) (x4 : Int32) (h : XH) : Option (Int32) :=
  D_M_isCopied_114 k4 k15 r0 x1 x3 x4 (0 : Int32) h
def D_M_isCopied_109 (k4 : Nat → Int32 → Int32 → Int32 → XH → Option (Int32)) (k15 : Nat → Int32 → Int32 → Int32 → Int32 → XH → Option (Int32)) (r0 : Nat) (x1 : Int32) (x3 : Int32) (x4 : Int32) (h : XH) : Option (Int32) :=
  D_M_isCopied_114 k4 k15 r0 x1 x3 x4 (1 : Int32) h
def D_M_isCopied_74 (k4 : Nat → Int32 → Int32 → Int32 → XH → Option (Int32)) (k15 : Nat → Int32 → Int32 → Int32 → Int32 → XH → Option (Int32)) (r0 : Nat) (x1 : Int32) (x2 : Int32) (x3 : Int32) (x4 : Int32) (s0 : Int32) (h : XH) : Option (Int32) :=
  if x2 = 0 then
    if s0 = 0 then
      D_M_isCopied_113 k4 k15 r0 x1 x3 x4 h
    else
      xb1 (xgR h 4 18 r0) fun q4 =>
      xb1 (xaI h q4 x4) fun v5 =>
      xchk (xis h 4 r0) <|
      xb1 (X_M_rankOf r0 v5 h) fun v7 =>
      xb1 (xgR h 4 18 r0) fun q11 =>
      xb1 (xaI h q11 x3) fun v12 =>
      xchk (xis h 4 r0) <|
      xb1 (X_M_rankOf r0 v12 h) fun v14 =>
      if v7 ≤ v14 then
        D_M_isCopied_113 k4 k15 r0 x1 x3 x4 h
      else
        D_M_isCopied_109 k4 k15 r0 x1 x3 x4 h
  else
    D_M_isCopied_109 k4 k15 r0 x1 x3 x4 h
def D_M_isCopied_73 (k4 : Nat → Int32 → Int32 → Int32 → XH → Option (Int32)) (k15 : Nat → Int32 → Int32 → Int32 → Int32 → XH → Option (Int32)) (r0 : Nat) (x1 : Int32) (x2 : Int32) (x3 : Int32) (x4 : Int32) (h : XH) : Option (Int32) :=
  D_M_isCopied_74 k4 k15 r0 x1 x2 x3 x4 (0 : Int32) h
def D_M_isCopied_15 (k4 : Nat → Int32 → Int32 → Int32 → XH → Option (Int32)) : Nat → Nat → Int32 → Int32 → Int32 → Int32 → XH → Option (Int32)
  | 0, _, _, _, _, _, _ => none
  | fu + 1, r0, x1, x2, x3, x4, h =>
  xb1 (xgI h 4 1 r0) fun v2 =>
  if v2 < x4 then
    k4 r0 x1 x2 (x3 + 1) h
  else
    xb1 (xgR h 4 6 r0) fun q5 =>
    xb1 (xaI h q5 x1) fun v6 =>
    if ((v6 >>> (x3 &&& 31)) &&& (1 : Int32)) = (1 : Int32) then
      xb1 (xgR h 4 7 r0) fun q10 =>
      xb1 (xaI h q10 x1) fun v11 =>
      if ((v11 >>> (x4 &&& 31)) &&& (1 : Int32)) = (1 : Int32) then
        xb1 (xgR h 4 3 r0) fun q15 =>
        xb1 (xaI h q15 x3) fun v16 =>
        xb1 (xgR h 4 3 r0) fun q19 =>
        xb1 (xaI h q19 x4) fun v20 =>
        if v16 = v20 then
          D_M_isCopied_74 k4 (D_M_isCopied_15 k4 fu) r0 x1 x2 x3 x4 (1 : Int32) h
        else
          D_M_isCopied_73 k4 (D_M_isCopied_15 k4 fu) r0 x1 x2 x3 x4 h
      else
        D_M_isCopied_73 k4 (D_M_isCopied_15 k4 fu) r0 x1 x2 x3 x4 h
    else
      D_M_isCopied_73 k4 (D_M_isCopied_15 k4 fu) r0 x1 x2 x3 x4 h
def D_M_isCopied_4 : Nat → Nat → Int32 → Int32 → Int32 → XH → Option (Int32)
  | 0, _, _, _, _, _ => none
  | fu + 1, r0, x1, x2, x3, h =>
  xb1 (xgI h 4 1 r0) fun v2 =>
  if v2 < x3 then
    xchk (xzb x2) (some x2)
  else
    D_M_isCopied_15 (D_M_isCopied_4 fu) 5000 r0 x1 x2 x3 (1 : Int32) h
def D_M_isCopied_0 (r0 : Nat) (x1 : Int32) (h : XH) : Option (Int32) :=
  D_M_isCopied_4 5000 r0 x1 (0 : Int32) (1 : Int32) h
def X_M_isCopied (r0 : Nat) (x1 : Int32) (h : XH) : Option (Int32) := D_M_isCopied_0 r0 x1 h
def D_M_buffer_45 (s0 : Int32) (h : XH) : Option (Int32 × XH) :=
  some (s0, h)
def D_M_buffer_0 (r0 : Nat) (x1 : Int32) (h : XH) : Option (Int32 × XH) :=
  xb1 (xp h 4 0 r0 (.int (0 : Int32))) fun h1 =>
  xb1 (X_M_isIn (x1.toInt64) (1 : Int64) (20 : Int64) h1) fun v3 =>
  if v3 = 0 then
    some ((-2 : Int32), h1)
  else
    xb1 (xgI h1 4 11 r0) fun v7 =>
    if v7 = 0 then
      D_M_buffer_45 (-3 : Int32) h1
    else
      xchk (xis h1 4 r0) <|
      xb1 (X_M_isCopied r0 x1 h1) fun v9 =>
      if v9 = 0 then
        D_M_buffer_45 (0 : Int32) h1
      else
        D_M_buffer_45 (1 : Int32) h1
def X_M_buffer (r0 : Nat) (x1 : Int32) (h : XH) : Option (Int32 × XH) := D_M_buffer_0 r0 x1 h
def D_M_table_75 (k27 : Nat → Int32 → Int32 → Int32 → Int32 → XH → Option (Int32 × XH)) (r0 : Nat) (x1 : Int32) (x2 : Int32) (x3 : Int32) (x4 : Int32) (h : XH) : Option (Int32 × XH) :=
  k27 r0 x1 x2 x3 (x4 + 1) h
def D_M_table_27 : Nat → Nat → Int32 → Int32 → Int32 → Int32 → XH → Option (Int32 × XH)
  | 0, _, _, _, _, _, _ => none
  | fu + 1, r0, x1, x2, x3, x4, h =>
  xb1 (xgR h 4 13 r0) fun q2 =>
  xb1 (xaI h q2 (0 : Int32)) fun v3 =>
  if v3 < x4 then
    some ((0 : Int32), h)
  else
    xb1 (xgR h 4 15 r0) fun q7 =>
    xb1 (xaI h q7 (x4 - (1 : Int32))) fun v8 =>
    if v8 ≤ 0 then
      D_M_table_75 (D_M_table_27 fu) r0 x1 x2 x3 x4 h
    else
      xb1 (xgR h 4 15 r0) fun q12 =>
      xb1 (xaI h q12 (x4 - (1 : Int32))) fun v13 =>
      if v13 = 0 then none else
      if (x1 - x1 / v13 * v13) = 0 then
        if x3 = x2 then
          some (x4, h)
        else
          D_M_table_75 (D_M_table_27 fu) r0 x1 x2 (x3 + 1) x4 h
      else
        D_M_table_75 (D_M_table_27 fu) r0 x1 x2 x3 x4 h
def D_M_table_0 (r0 : Nat) (x1 : Int32) (x2 : Int32) (h : XH) : Option (Int32 × XH) :=
  xb1 (xp h 4 0 r0 (.int (0 : Int32))) fun h1 =>
  if 0 ≤ x1 then
    xb1 (xgI h1 4 11 r0) fun v5 =>
    if v5 = 0 then
      some ((-3 : Int32), h1)
    else
      D_M_table_27 5000 r0 x1 x2 (0 : Int32) (1 : Int32) h1
  else
    some ((-2 : Int32), h1)
def X_M_table (r0 : Nat) (x1 : Int32) (x2 : Int32) (h : XH) : Option (Int32 × XH) := D_M_table_0 r0 x1 x2 h
def D_M_cross_155 (k34 : Nat → Int32 → Int32 → Int32 → XH → Option (Int32 × XH)) (r0 : Nat) (x1 : Int32) (x3 : Int32) (s0 : Int32) (s1 : Int32) (h : XH) : Option (Int32 × XH) :=
  k34 r0 x1 (s1 + s0) (x3 + 1) h
def D_M_cross_154 (k34 : Nat → Int32 → Int32 → Int32 → XH → Option (Int32 × XH)) (r0 : Nat) (x1 : Int32) (x3 : Int32) (s0 : Int32) (h : XH) : Option (Int32 × XH) :=
  D_M_cross_155 k34 r0 x1 x3 (0 : Int32) s0 h
def D_M_cross_131 (k34 : Nat → Int32 → Int32 → Int32 → XH → Option (Int32 × XH)) (k48 : Nat → Int32 → Int32 → Int32 → Int32 → Int32 → Int32 → XH → Option (Int32 × XH)) (r0 : Nat) (x1 : Int32) (x2 : Int32) (x3 : Int32) (x4 : Int32) (x6 : Int32) (s0 : Int32) (h : XH) : Option (Int32 × XH) :=
  k48 r0 x1 x2 x3 x4 s0 (x6 + 1) h
def D_M_cross_130 (k34 : Nat → Int32 → Int32 → Int32 → XH → Option (Int32 × XH)) (k48 : Nat → Int32 → Int32 → Int32 → Int32 → Int32 → Int32 → XH → Option (Int32 × XH)) (r0 : Nat) (x1 : Int32) (x2 : Int32) (x3 : Int32) (x4 : Int32) (x6 : Int32) (h : XH) : Option (Int32 × XH) :=
  D_M_cross_131 k34 k48 r0 x1 x2 x3 x4 x6 (0 : Int32) h
def D_M_cross_126 (k34 : Nat → Int32 → Int32 → Int32 → XH → Option (Int32 × XH)) (k48 : Nat → Int32 → Int32 → Int32 → Int32 → Int32 → Int32 → XH → Option (Int32 × XH)) (r0 : Nat) (x1 : Int32) (x2 : Int32) (x3 : Int32) (x4 : Int32) (x6 : Int32) (h : XH) : Option (Int32 × XH) :=
  D_M_cross_131 k34 k48 r0 x1 x2 x3 x4 x6 (1 : Int32) h
def D_M_cross_93 (k34 : Nat → Int32 → Int32 → Int32 → XH → Option (Int32 × XH)) (k48 : Nat → Int32 → Int32 → Int32 → Int32 → Int32 → Int32 → XH → Option (Int32 × XH)) (r0 : Nat) (x1 : Int32) (x2 : Int32) (x3 : Int32) (x5 : Int32) (x6 : Int32) (s0 : Int32) (h : XH) : Option (Int32 × XH) :=
  if x5 = 0 then
    xb1 (xgR h 4 3 r0) fun q3 =>
    xb1 (xaI h q3 x6) fun v4 =>
    if v4 = x3 then
      D_M_cross_130 k34 k48 r0 x1 x2 x3 s0 x6 h
    else
      xb1 (xgR h 4 7 r0) fun q8 =>
      xb1 (xaI h q8 x1) fun v9 =>
      if ((v9 >>> (x6 &&& 31)) &&& (1 : Int32)) = (1 : Int32) then
        D_M_cross_126 k34 k48 r0 x1 x2 x3 s0 x6 h
      else
        D_M_cross_130 k34 k48 r0 x1 x2 x3 s0 x6 h
  else
    D_M_cross_126 k34 k48 r0 x1 x2 x3 s0 x6 h
def D_M_cross_92 (k34 : Nat → Int32 → Int32 → Int32 → XH → Option (Int32 × XH)) (k48 : Nat → Int32 → Int32 → Int32 → Int32 → Int32 → Int32 → XH → Option (Int32 × XH)) (r0 : Nat) (x1 : Int32) (x2 : Int32) (x3 : Int32) (x5 : Int32) (x6 : Int32) (h : XH) : Option (Int32 × XH) :=
  D_M_cross_93 k34 k48 r0 x1 x2 x3 x5 x6 (0 : Int32) h
def D_M_cross_88 (k34 : Nat → Int32 → Int32 → Int32 → XH → Option (Int32 × XH)) (k48 : Nat → Int32 → Int32 → Int32 → Int32 → Int32 → Int32 → XH → Option (Int32 × XH)) (r0 : Nat) (x1 : Int32) (x2 : Int32) (x3 : Int32) (x5 : Int32) (x6 : Int32) (h : XH) : Option (Int32 × XH) :=
  D_M_cross_93 k34 k48 r0 x1 x2 x3 x5 x6 (1 : Int32) h
def D_M_cross_48 (k34 : Nat → Int32 → Int32 → Int32 → XH → Option (Int32 × XH)) : Nat → Nat → Int32 → Int32 → Int32 → Int32 → Int32 → Int32 → XH → Option (Int32 × XH)
  | 0, _, _, _, _, _, _, _, _ => none
  | fu + 1, r0, x1, x2, x3, x4, x5, x6, h =>
  xb1 (xgI h 4 1 r0) fun v2 =>
  if v2 < x6 then
    if x4 = 0 then
      D_M_cross_154 k34 r0 x1 x3 x2 h
    else
      if x5 = 0 then
        D_M_cross_154 k34 r0 x1 x3 x2 h
      else
        D_M_cross_155 k34 r0 x1 x3 (1 : Int32) x2 h
  else
    if x4 = 0 then
      xb1 (xgR h 4 3 r0) fun q8 =>
      xb1 (xaI h q8 x6) fun v9 =>
      if v9 = x3 then
        xb1 (xgR h 4 6 r0) fun q13 =>
        xb1 (xaI h q13 x1) fun v14 =>
        if ((v14 >>> (x6 &&& 31)) &&& (1 : Int32)) = (1 : Int32) then
          D_M_cross_88 k34 (D_M_cross_48 k34 fu) r0 x1 x2 x3 x5 x6 h
        else
          D_M_cross_92 k34 (D_M_cross_48 k34 fu) r0 x1 x2 x3 x5 x6 h
      else
        D_M_cross_92 k34 (D_M_cross_48 k34 fu) r0 x1 x2 x3 x5 x6 h
    else
      D_M_cross_88 k34 (D_M_cross_48 k34 fu) r0 x1 x2 x3 x5 x6 h
def D_M_cross_34 : Nat → Nat → Int32 → Int32 → Int32 → XH → Option (Int32 × XH)
  | 0, _, _, _, _, _ => none
  | fu + 1, r0, x1, x2, x3, h =>
  if (4 : Int32) < x3 then
    some (x2, h)
  else
    D_M_cross_48 (D_M_cross_34 fu) 5000 r0 x1 x2 x3 (0 : Int32) (0 : Int32) (1 : Int32) h
def D_M_cross_0 (r0 : Nat) (x1 : Int32) (h : XH) : Option (Int32 × XH) :=
  xb1 (xp h 4 0 r0 (.int (0 : Int32))) fun h1 =>
  xb1 (X_M_isIn (x1.toInt64) (1 : Int64) (20 : Int64) h1) fun v3 =>
  if v3 = 0 then
    some ((-2 : Int32), h1)
  else
    xb1 (xgI h1 4 11 r0) fun v7 =>
    if v7 = 0 then
      some ((-3 : Int32), h1)
    else
      D_M_cross_34 5000 r0 x1 (0 : Int32) (1 : Int32) h1
def X_M_cross (r0 : Nat) (x1 : Int32) (h : XH) : Option (Int32 × XH) := D_M_cross_0 r0 x1 h
def D_M_budget_94 (s0 : Int32) (h : XH) : Option (Int32 × XH) :=
  some (s0, h)
def D_M_budget_47 : Nat → Nat → Int32 → Int64 → Int64 → Int32 → XH → Option (Int32 × XH)
  | 0, _, _, _, _, _, _ => none
  | fu + 1, r0, x1, x2, x4, x6, h =>
  xb1 (xgR h 4 16 r0) fun q2 =>
  xb1 (xaI h q2 x1) fun v3 =>
  if v3 ≤ x6 then
    if 0 < (lg_cmp x4 x2) then
      D_M_budget_94 (0 : Int32) h
    else
      D_M_budget_94 (1 : Int32) h
  else
    xb1 (xgR h 4 4 r0) fun q8 =>
    xb1 (xgR h 4 17 r0) fun q10 =>
    xb1 (xaI h q10 x6) fun v11 =>
    xb1 (xaI h q8 v11) fun v13 =>
    D_M_budget_47 fu r0 x1 x2 (x4 + (v13.toInt64)) (x6 + 1) h
def D_M_budget_0 (r0 : Nat) (x1 : Int32) (x2 : Int64) (h : XH) : Option (Int32 × XH) :=
  xb1 (xp h 4 0 r0 (.int (0 : Int32))) fun h1 =>
  xb1 (xgI h1 4 11 r0) fun v4 =>
  if v4 = 0 then
    some ((-3 : Int32), h1)
  else
    xchk (xis h1 4 r0) <|
    xb1 (X_M_isTask r0 x1 h1) fun v6 =>
    if v6 = 0 then
      some ((-1 : Int32), h1)
    else
      if 0 ≤ (lg_cmp x2 (0 : Int64)) then
        xchk (xis h1 4 r0) <|
        xb1 (X_M_from r0 (0 : Int32) (x1 - (1 : Int32)) h1) fun v11 =>
        D_M_budget_47 5000 r0 x1 x2 (0 : Int64) v11 h1
      else
        some ((-2 : Int32), h1)
def X_M_budget (r0 : Nat) (x1 : Int32) (x2 : Int64) (h : XH) : Option (Int32 × XH) := D_M_budget_0 r0 x1 x2 h
def D_M_isSame_153 (x7 : Int32) (h : XH) : Option (Int32) :=
  xchk (xzb x7) (some x7)
def D_M_isSame_145 (k100 : Nat → Int32 → Int32 → Int32 → Int32 → Int32 → Int32 → XH → Option (Int32)) (r0 : Nat) (x2 : Int32) (x4 : Int32) (x5 : Int32) (x6 : Int32) (x8 : Int32) (s0 : Int32) (h : XH) : Option (Int32) :=
  k100 r0 x2 x4 x5 x6 s0 (x8 + 1) h
def D_M_isSame_100 : Nat → Nat → Int32 → Int32 → Int32 → Int32 → Int32 → Int32 → XH → Option (Int32)
  | 0, _, _, _, _, _, _, _, _ => none
  | fu + 1, r0, x2, x4, x5, x6, x7, x8, h =>
  if x6 ≤ x8 then
    D_M_isSame_153 x7 h
  else
    if x7 = 0 then
      D_M_isSame_153 x7 h
    else
      xb1 (xgR h 4 17 r0) fun q4 =>
      xb1 (xaI h q4 (x4 + x8)) fun v5 =>
      xb1 (xgR h 4 17 r0) fun q8 =>
      xb1 (xaI h q8 ((((24 : Int32) * x2) + x5) + x8)) fun v9 =>
      if v5 = v9 then
        D_M_isSame_145 (D_M_isSame_100 fu) r0 x2 x4 x5 x6 x8 (1 : Int32) h
      else
        D_M_isSame_145 (D_M_isSame_100 fu) r0 x2 x4 x5 x6 x8 (0 : Int32) h
def D_M_isSame_95 (r0 : Nat) (x2 : Int32) (x4 : Int32) (x5 : Int32) (x6 : Int32) (s0 : Int32) (h : XH) : Option (Int32) :=
  D_M_isSame_100 5000 r0 x2 x4 x5 x6 s0 (0 : Int32) h
def D_M_isSame_94 (r0 : Nat) (x2 : Int32) (x4 : Int32) (x5 : Int32) (x6 : Int32) (h : XH) : Option (Int32) :=
  D_M_isSame_95 r0 x2 x4 x5 x6 (0 : Int32) h
def D_M_isSame_0 (r0 : Nat) (x1 : Int32) (x2 : Int32) (x3 : Int32) (h : XH) : Option (Int32) :=
  xchk (xis h 4 r0) <|
  xb1 (X_M_from r0 (0 : Int32) x1 h) fun v1 =>
  xchk (xis h 4 r0) <|
  xb1 (X_M_from r0 x2 x3 h) fun v4 =>
  xb1 (xgR h 4 16 r0) fun q8 =>
  xb1 (xaI h q8 (x1 + (1 : Int32))) fun v9 =>
  xb1 (xgR h 4 14 r0) fun q12 =>
  xb1 (xaI h q12 x1) fun v13 =>
  xb1 (xgR h 4 14 r0) fun q16 =>
  xb1 (xaI h q16 (((24 : Int32) * x2) + x3)) fun v17 =>
  if v13 = v17 then
    xb1 (xgR h 4 15 r0) fun q21 =>
    xb1 (xaI h q21 x1) fun v22 =>
    xb1 (xgR h 4 15 r0) fun q25 =>
    xb1 (xaI h q25 (((24 : Int32) * x2) + x3)) fun v26 =>
    if v22 = v26 then
      xb1 (xgR h 4 16 r0) fun q30 =>
      xb1 (xaI h q30 ((((25 : Int32) * x2) + x3) + (1 : Int32))) fun v31 =>
      if (v31 - v4) = (v9 - v1) then
        D_M_isSame_95 r0 x2 v1 v4 (v9 - v1) (1 : Int32) h
      else
        D_M_isSame_94 r0 x2 v1 v4 (v9 - v1) h
    else
      D_M_isSame_94 r0 x2 v1 v4 (v9 - v1) h
  else
    D_M_isSame_94 r0 x2 v1 v4 (v9 - v1) h
def X_M_isSame (r0 : Nat) (x1 : Int32) (x2 : Int32) (x3 : Int32) (h : XH) : Option (Int32) := D_M_isSame_0 r0 x1 x2 x3 h
def D_M_differ_108 (k41 : Nat → Int32 → Int32 → Int32 → XH → Option (Int32 × XH)) (r0 : Nat) (x1 : Int32) (x3 : Int32) (s0 : Int32) (s1 : Int32) (h : XH) : Option (Int32 × XH) :=
  k41 r0 x1 (s1 + s0) (x3 + 1) h
def D_M_differ_89 (k41 : Nat → Int32 → Int32 → Int32 → XH → Option (Int32 × XH)) (k57 : Nat → Int32 → Int32 → Int32 → Int32 → Int32 → XH → Option (Int32 × XH)) (r0 : Nat) (x1 : Int32) (x2 : Int32) (x3 : Int32) (x5 : Int32) (s0 : Int32) (h : XH) : Option (Int32 × XH) :=
  k57 r0 x1 x2 x3 s0 (x5 + 1) h
def D_M_differ_84 (k41 : Nat → Int32 → Int32 → Int32 → XH → Option (Int32 × XH)) (k57 : Nat → Int32 → Int32 → Int32 → Int32 → Int32 → XH → Option (Int32 × XH)) (r0 : Nat) (x1 : Int32) (x2 : Int32) (x3 : Int32) (x5 : Int32) (h : XH) : Option (Int32 × XH) :=
  D_M_differ_89 k41 k57 r0 x1 x2 x3 x5 (1 : Int32) h
def D_M_differ_57 (k41 : Nat → Int32 → Int32 → Int32 → XH → Option (Int32 × XH)) : Nat → Nat → Int32 → Int32 → Int32 → Int32 → Int32 → XH → Option (Int32 × XH)
  | 0, _, _, _, _, _, _, _ => none
  | fu + 1, r0, x1, x2, x3, x4, x5, h =>
  xb1 (xgR h 4 13 r0) fun q2 =>
  xb1 (xaI h q2 x1) fun v3 =>
  if v3 ≤ x5 then
    if x4 = 0 then
      D_M_differ_108 k41 r0 x1 x3 (1 : Int32) x2 h
    else
      D_M_differ_108 k41 r0 x1 x3 (0 : Int32) x2 h
  else
    if x4 = 0 then
      xchk (xis h 4 r0) <|
      xb1 (X_M_isSame r0 x3 x1 x5 h) fun v8 =>
      if v8 = 0 then
        D_M_differ_89 k41 (D_M_differ_57 k41 fu) r0 x1 x2 x3 x5 (0 : Int32) h
      else
        D_M_differ_84 k41 (D_M_differ_57 k41 fu) r0 x1 x2 x3 x5 h
    else
      D_M_differ_84 k41 (D_M_differ_57 k41 fu) r0 x1 x2 x3 x5 h
def D_M_differ_41 : Nat → Nat → Int32 → Int32 → Int32 → XH → Option (Int32 × XH)
  | 0, _, _, _, _, _ => none
  | fu + 1, r0, x1, x2, x3, h =>
  xb1 (xgR h 4 13 r0) fun q2 =>
  xb1 (xaI h q2 (0 : Int32)) fun v3 =>
  if v3 ≤ x3 then
    some (x2, h)
  else
    D_M_differ_57 (D_M_differ_41 fu) 5000 r0 x1 x2 x3 (0 : Int32) (0 : Int32) h
def D_M_differ_35 (h : XH) : Option (Int32 × XH) :=
  some ((-1 : Int32), h)
def D_M_differ_0 (r0 : Nat) (x1 : Int32) (h : XH) : Option (Int32 × XH) :=
  xb1 (xp h 4 0 r0 (.int (0 : Int32))) fun h1 =>
  xb1 (xgI h1 4 11 r0) fun v4 =>
  if v4 = 0 then
    some ((-3 : Int32), h1)
  else
    xb1 (xgI h1 4 12 r0) fun v7 =>
    xb1 (X_M_isIn (x1.toInt64) (1 : Int64) (v7.toInt64) h1) fun v8 =>
    if v8 = 0 then
      D_M_differ_35 h1
    else
      if x1 ≤ (40 : Int32) then
        D_M_differ_41 5000 r0 x1 (0 : Int32) (0 : Int32) h1
      else
        D_M_differ_35 h1
def X_M_differ (r0 : Nat) (x1 : Int32) (h : XH) : Option (Int32 × XH) := D_M_differ_0 r0 x1 h
