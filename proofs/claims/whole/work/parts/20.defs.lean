def D_U_init_0 (r0 : Nat) (n : Nat) (h : XH) : Option (Nat × XH) :=
  xb1 (some (va_up h (n + 1) (.inl (.int, (25, .inl (fun _ => 0)))))) fun h1 =>
  xb1 (xp h1 1 1 r0 (.ref (n + 1))) fun h3 =>
  xb1 (some (va_up h3 (n + 1 + 1) (.inl (.int, (25, .inl (fun _ => 0)))))) fun h5 =>
  xb1 (xp h5 1 2 r0 (.ref (n + 1 + 1))) fun h7 =>
  xb1 (some (va_up h7 (n + 1 + 1 + 1) (.inl (.int, (25, .inl (fun _ => 0)))))) fun h9 =>
  xb1 (xp h9 1 3 r0 (.ref (n + 1 + 1 + 1))) fun h11 =>
  xb1 (some (va_up h11 (n + 1 + 1 + 1 + 1) (.inl (.int, (25, .inl (fun _ => 0)))))) fun h13 =>
  xb1 (xp h13 1 4 r0 (.ref (n + 1 + 1 + 1 + 1))) fun h15 =>
  xb1 (some (va_up h15 (n + 1 + 1 + 1 + 1 + 1) (.inl (.int, (25, .inl (fun _ => 0)))))) fun h17 =>
  xb1 (xp h17 1 5 r0 (.ref (n + 1 + 1 + 1 + 1 + 1))) fun h19 =>
  some (n + 1 + 1 + 1 + 1 + 1, h19)
def X_U_init (r0 : Nat) (n : Nat) (h : XH) : Option (Nat × XH) := D_U_init_0 r0 n h
def D_G_init_0 (r0 : Nat) (n : Nat) (h : XH) : Option (Nat × XH) :=
  xb1 (some (va_up h (n + 1) (.inl (.int, (25, .inl (fun _ => 0)))))) fun h1 =>
  xb1 (xp h1 2 0 r0 (.ref (n + 1))) fun h3 =>
  xb1 (some (va_up h3 (n + 1 + 1) (.inl (.int, (25, .inl (fun _ => 0)))))) fun h5 =>
  xb1 (xp h5 2 1 r0 (.ref (n + 1 + 1))) fun h7 =>
  xb1 (some (va_up h7 (n + 1 + 1 + 1) (.inl (.int, (24, .inl (fun _ => 0)))))) fun h9 =>
  xb1 (xp h9 2 2 r0 (.ref (n + 1 + 1 + 1))) fun h11 =>
  xb1 (some (va_up h11 (n + 1 + 1 + 1 + 1) (.inl (.int, (24, .inl (fun _ => 0)))))) fun h13 =>
  xb1 (xp h13 2 3 r0 (.ref (n + 1 + 1 + 1 + 1))) fun h15 =>
  some (n + 1 + 1 + 1 + 1, h15)
def X_G_init (r0 : Nat) (n : Nat) (h : XH) : Option (Nat × XH) := D_G_init_0 r0 n h
def D_P_init_0 (r0 : Nat) (n : Nat) (h : XH) : Option (Nat × XH) :=
  xb1 (some (va_up h (n + 1) (.inl (.int, (25, .inl (fun _ => 0)))))) fun h1 =>
  xb1 (xp h1 3 1 r0 (.ref (n + 1))) fun h3 =>
  xb1 (some (va_up h3 (n + 1 + 1) (.inl (.int, (25, .inl (fun _ => 0)))))) fun h5 =>
  xb1 (xp h5 3 2 r0 (.ref (n + 1 + 1))) fun h7 =>
  xb1 (some (va_up h7 (n + 1 + 1 + 1) (.inl (.int, (25, .inl (fun _ => 0)))))) fun h9 =>
  xb1 (xp h9 3 3 r0 (.ref (n + 1 + 1 + 1))) fun h11 =>
  xb1 (some (va_up h11 (n + 1 + 1 + 1 + 1) (.inl (.int, (24, .inl (fun _ => 0)))))) fun h13 =>
  xb1 (xp h13 3 4 r0 (.ref (n + 1 + 1 + 1 + 1))) fun h15 =>
  xb1 (some (va_up h15 (n + 1 + 1 + 1 + 1 + 1) (.inl (.int, (26, .inl (fun _ => 0)))))) fun h17 =>
  xb1 (xp h17 3 5 r0 (.ref (n + 1 + 1 + 1 + 1 + 1))) fun h19 =>
  some (n + 1 + 1 + 1 + 1 + 1, h19)
def X_P_init (r0 : Nat) (n : Nat) (h : XH) : Option (Nat × XH) := D_P_init_0 r0 n h
def D_T_init_0 (r0 : Nat) (n : Nat) (h : XH) : Option (Nat × XH) :=
  xb1 (some (va_up h (n + 1) (.inr (1, [.int 0, .null, .null, .null, .null, .null])))) fun h1 =>
  xb2 (X_U_init (n + 1) (n + 1) h1) fun n3 h4 =>
  xb1 (xp h4 0 0 r0 (.ref (n + 1))) fun h6 =>
  xb1 (some (va_up h6 (n3 + 1) (.inr (2, [.null, .null, .null, .null, .int 0])))) fun h8 =>
  xb2 (X_G_init (n3 + 1) (n3 + 1) h8) fun n10 h11 =>
  xb1 (xp h11 0 1 r0 (.ref (n3 + 1))) fun h13 =>
  xb1 (some (va_up h13 (n10 + 1) (.inl (.object "TaskBuild$Plan", (40, .inr (.inr (.inr (.inr (fun _ => none))))))))) fun h15 =>
  xb1 (xp h15 0 2 r0 (.ref (n10 + 1))) fun h17 =>
  xb1 (some (va_up h17 (n10 + 1 + 1) (.inr (3, [.int 0, .null, .null, .null, .null, .null])))) fun h19 =>
  xb2 (X_P_init (n10 + 1 + 1) (n10 + 1 + 1) h19) fun n21 h22 =>
  xb1 (xp h22 0 4 r0 (.ref (n10 + 1 + 1))) fun h24 =>
  some (n21, h24)
def X_T_init (r0 : Nat) (n : Nat) (h : XH) : Option (Nat × XH) := D_T_init_0 r0 n h
def D_T_isWithin_15 (s0 : Int32) (h : XH) : Option (Int32) :=
  xchk (xzb s0) (some s0)
def D_T_isWithin_14 (h : XH) : Option (Int32) :=
  D_T_isWithin_15 (0 : Int32) h
def D_T_isWithin_0 (x0 : Int32) (x1 : Int32) (x2 : Int32) (h : XH) : Option (Int32) :=
  if x0 < x1 then
    D_T_isWithin_14 h
  else
    if x2 < x0 then
      D_T_isWithin_14 h
    else
      D_T_isWithin_15 (1 : Int32) h
def X_T_isWithin (x0 : Int32) (x1 : Int32) (x2 : Int32) (h : XH) : Option (Int32) := D_T_isWithin_0 x0 x1 x2 h
def D_U_isFull_14 (s0 : Int32) (h : XH) : Option (Int32) :=
  xchk (xzb s0) (some s0)
def D_U_isFull_0 (r0 : Nat) (h : XH) : Option (Int32) :=
  xb1 (xgI h 1 0 r0) fun v2 =>
  if v2 < (24 : Int32) then
    D_U_isFull_14 (0 : Int32) h
  else
    D_U_isFull_14 (1 : Int32) h
def X_U_isFull (r0 : Nat) (h : XH) : Option (Int32) := D_U_isFull_0 r0 h
def D_U_add_0 (r0 : Nat) (x1 : Int32) (x2 : Int32) (x3 : Int32) (h : XH) : Option (Int32 × XH) :=
  xb1 (xgI h 1 0 r0) fun v2 =>
  xb1 (xp h 1 0 r0 (.int (v2 + (1 : Int32)))) fun h3 =>
  xb1 (xgR h3 1 1 r0) fun q6 =>
  xb1 (xgI h3 1 0 r0) fun v8 =>
  xb1 (xaS h3 q6 v8 x1) fun h9 =>
  xb1 (xgR h9 1 2 r0) fun q12 =>
  xb1 (xgI h9 1 0 r0) fun v14 =>
  xb1 (xaS h9 q12 v14 x2) fun h15 =>
  xb1 (xgR h15 1 3 r0) fun q18 =>
  xb1 (xgI h15 1 0 r0) fun v20 =>
  xb1 (xaS h15 q18 v20 x3) fun h21 =>
  xb1 (xgI h21 1 0 r0) fun v24 =>
  some (v24, h21)
def X_U_add (r0 : Nat) (x1 : Int32) (x2 : Int32) (x3 : Int32) (h : XH) : Option (Int32 × XH) := D_U_add_0 r0 x1 x2 x3 h
def D_T_runnable_30 (h : XH) : Option (Int32 × XH) :=
  some ((-2 : Int32), h)
def D_T_runnable_0 (r0 : Nat) (x1 : Int32) (x2 : Int32) (x3 : Int32) (h : XH) : Option (Int32 × XH) :=
  xb1 (X_T_isWithin x1 (0 : Int32) (1000 : Int32) h) fun v1 =>
  if v1 = 0 then
    D_T_runnable_30 h
  else
    xb1 (X_T_isWithin x2 (1 : Int32) (4 : Int32) h) fun v4 =>
    if v4 = 0 then
      D_T_runnable_30 h
    else
      xb1 (X_T_isWithin x3 (0 : Int32) (100000 : Int32) h) fun v7 =>
      if v7 = 0 then
        D_T_runnable_30 h
      else
        xb1 (xgR h 0 0 r0) fun q11 =>
        xchk (xis h 1 q11) <|
        xb1 (X_U_isFull q11 h) fun v12 =>
        if v12 = 0 then
          xb1 (xp h 0 5 r0 (.null)) fun h16 =>
          xb1 (xgR h16 0 0 r0) fun q19 =>
          xchk (xis h16 1 q19) <|
          xb2 (X_U_add q19 x1 x2 x3 h16) fun v20 h21 =>
          some (v20, h21)
        else
          some ((-4 : Int32), h)
def X_T_runnable (r0 : Nat) (x1 : Int32) (x2 : Int32) (x3 : Int32) (h : XH) : Option (Int32 × XH) := D_T_runnable_0 r0 x1 x2 x3 h
def D_U_has_0 (r0 : Nat) (x1 : Int32) (h : XH) : Option (Int32) :=
  xb1 (xgI h 1 0 r0) fun v2 =>
  xb1 (X_T_isWithin x1 (1 : Int32) v2 h) fun v3 =>
  xchk (xzb v3) (some v3)
def X_U_has (r0 : Nat) (x1 : Int32) (h : XH) : Option (Int32) := D_U_has_0 r0 x1 h
def D_T_isIn_13 (s0 : Int32) (h : XH) : Option (Int32) :=
  xchk (xzb s0) (some s0)
def D_T_isIn_0 (x0 : Int32) (x1 : Int32) (h : XH) : Option (Int32) :=
  if (x0 &&& ((1 : Int32) <<< (x1 &&& 31))) = 0 then
    D_T_isIn_13 (0 : Int32) h
  else
    D_T_isIn_13 (1 : Int32) h
def X_T_isIn (x0 : Int32) (x1 : Int32) (h : XH) : Option (Int32) := D_T_isIn_0 x0 x1 h
def D_G_wouldCloseRing_23 (s0 : Int32) (h : XH) : Option (Int32) :=
  xchk (xzb s0) (some s0)
def D_G_wouldCloseRing_18 (h : XH) : Option (Int32) :=
  D_G_wouldCloseRing_23 (1 : Int32) h
def D_G_wouldCloseRing_0 (r0 : Nat) (x1 : Int32) (x2 : Int32) (h : XH) : Option (Int32) :=
  if x1 = x2 then
    D_G_wouldCloseRing_18 h
  else
    xb1 (xgR h 2 1 r0) fun q3 =>
    xb1 (xaI h q3 x1) fun v4 =>
    xb1 (X_T_isIn v4 x2 h) fun v6 =>
    if v6 = 0 then
      D_G_wouldCloseRing_23 (0 : Int32) h
    else
      D_G_wouldCloseRing_18 h
def X_G_wouldCloseRing (r0 : Nat) (x1 : Int32) (x2 : Int32) (h : XH) : Option (Int32) := D_G_wouldCloseRing_0 r0 x1 x2 h
def D_G_toldBeforeAny_27 (k4 : Nat → Int32 → Int32 → Int32 → XH → Option (Int32)) (r0 : Nat) (x1 : Int32) (x2 : Int32) (x3 : Int32) (h : XH) : Option (Int32) :=
  k4 r0 x1 x2 (x3 + 1) h
def D_G_toldBeforeAny_4 : Nat → Nat → Int32 → Int32 → Int32 → XH → Option (Int32)
  | 0, _, _, _, _, _ => none
  | fu + 1, r0, x1, x2, x3, h =>
  if (24 : Int32) < x3 then
    some x2
  else
    xb1 (X_T_isIn x1 x3 h) fun v2 =>
    if v2 = 0 then
      D_G_toldBeforeAny_27 (D_G_toldBeforeAny_4 fu) r0 x1 x2 x3 h
    else
      xb1 (xgR h 2 0 r0) fun q6 =>
      xb1 (xaI h q6 x3) fun v7 =>
      D_G_toldBeforeAny_27 (D_G_toldBeforeAny_4 fu) r0 x1 (x2 ||| v7) x3 h
def D_G_toldBeforeAny_0 (r0 : Nat) (x1 : Int32) (h : XH) : Option (Int32) :=
  D_G_toldBeforeAny_4 5000 r0 x1 (0 : Int32) (1 : Int32) h
def X_G_toldBeforeAny (r0 : Nat) (x1 : Int32) (h : XH) : Option (Int32) := D_G_toldBeforeAny_0 r0 x1 h
def D_G_layersFrom_59 (x3 : Int32) (h : XH) : Option (Int32 × XH) :=
  some (x3, h)
def D_G_layersFrom_11 : Nat → Nat → Int32 → Int32 → XH → Option (Int32 × XH)
  | 0, _, _, _, _ => none
  | fu + 1, r0, x2, x3, h =>
  xb1 (xgR h 2 2 r0) fun q2 =>
  xb1 (xaN h q2) fun v3 =>
  if (v3 - (1 : Int32)) ≤ x3 then
    D_G_layersFrom_59 x3 h
  else
    xb1 (xgR h 2 2 r0) fun q7 =>
    xb1 (xaI h q7 x3) fun v8 =>
    xb1 (X_T_isIn v8 x2 h) fun v10 =>
    if v10 = 0 then
      xb1 (xgR h 2 2 r0) fun q14 =>
      xb1 (xgR h 2 2 r0) fun q16 =>
      xb1 (xaI h q16 x3) fun v17 =>
      xchk (xis h 2 r0) <|
      xb1 (X_G_toldBeforeAny r0 v17 h) fun v19 =>
      xb1 (xaS h q14 (x3 + (1 : Int32)) v19) fun h22 =>
      D_G_layersFrom_11 fu r0 x2 (x3 + 1) h22
    else
      D_G_layersFrom_59 x3 h
def D_G_layersFrom_0 (r0 : Nat) (x1 : Int32) (x2 : Int32) (h : XH) : Option (Int32 × XH) :=
  xb1 (xgR h 2 2 r0) fun q2 =>
  xb1 (xaS h q2 (0 : Int32) ((1 : Int32) <<< (x1 &&& 31))) fun h3 =>
  D_G_layersFrom_11 5000 r0 x2 (0 : Int32) h3
def X_G_layersFrom (r0 : Nat) (x1 : Int32) (x2 : Int32) (h : XH) : Option (Int32 × XH) := D_G_layersFrom_0 r0 x1 x2 h
def D_G_leastBehind_31 (k2 : Nat → Int32 → Int32 → Int32 → XH → Option (Int32)) (r0 : Nat) (x1 : Int32) (x2 : Int32) (x3 : Int32) (h : XH) : Option (Int32) :=
  k2 r0 x1 x2 (x3 + 1) h
def D_G_leastBehind_2 : Nat → Nat → Int32 → Int32 → Int32 → XH → Option (Int32)
  | 0, _, _, _, _, _ => none
  | fu + 1, r0, x1, x2, x3, h =>
  if (24 : Int32) < x3 then
    some (0 : Int32)
  else
    xb1 (X_T_isIn x2 x3 h) fun v2 =>
    if v2 = 0 then
      D_G_leastBehind_31 (D_G_leastBehind_2 fu) r0 x1 x2 x3 h
    else
      xb1 (xgR h 2 0 r0) fun q6 =>
      xb1 (xaI h q6 x3) fun v7 =>
      xb1 (X_T_isIn v7 x1 h) fun v9 =>
      if v9 = 0 then
        D_G_leastBehind_31 (D_G_leastBehind_2 fu) r0 x1 x2 x3 h
      else
        some x3
def D_G_leastBehind_0 (r0 : Nat) (x1 : Int32) (x2 : Int32) (h : XH) : Option (Int32) :=
  D_G_leastBehind_2 5000 r0 x1 x2 (1 : Int32) h
def X_G_leastBehind (r0 : Nat) (x1 : Int32) (x2 : Int32) (h : XH) : Option (Int32) := D_G_leastBehind_0 r0 x1 x2 h
def D_G_tellRing_17 : Nat → Nat → Int32 → Int32 → XH → Option (XH)
  | 0, _, _, _, _ => none
  | fu + 1, r0, x3, x4, h =>
  if x3 < x4 then
    xb1 (xp h 2 4 r0 (.int (x3 + (1 : Int32)))) fun h2 =>
    some h2
  else
    xb1 (xgR h 2 3 r0) fun q5 =>
    xb1 (xgR h 2 3 r0) fun q7 =>
    xb1 (xaI h q7 (x4 - (1 : Int32))) fun v8 =>
    xb1 (xgR h 2 2 r0) fun q11 =>
    xb1 (xaI h q11 (x3 - x4)) fun v12 =>
    xchk (xis h 2 r0) <|
    xb1 (X_G_leastBehind r0 v8 v12 h) fun v14 =>
    xb1 (xaS h q5 x4 v14) fun h17 =>
    D_G_tellRing_17 fu r0 x3 (x4 + 1) h17
def D_G_tellRing_0 (r0 : Nat) (x1 : Int32) (x2 : Int32) (h : XH) : Option (XH) :=
  xchk (xis h 2 r0) <|
  xb2 (X_G_layersFrom r0 x1 x2 h) fun v1 h2 =>
  xb1 (xgR h2 2 3 r0) fun q6 =>
  xb1 (xaS h2 q6 (0 : Int32) x2) fun h7 =>
  D_G_tellRing_17 5000 r0 v1 (1 : Int32) h7
def X_G_tellRing (r0 : Nat) (x1 : Int32) (x2 : Int32) (h : XH) : Option (XH) := D_G_tellRing_0 r0 x1 x2 h
def D_G_add_64 (k26 : Nat → Int32 → Int32 → Int32 → XH → Option (XH)) (r0 : Nat) (x2 : Int32) (x3 : Int32) (x4 : Int32) (h : XH) : Option (XH) :=
  k26 r0 x2 x3 (x4 + 1) h
def D_G_add_53 (k26 : Nat → Int32 → Int32 → Int32 → XH → Option (XH)) (r0 : Nat) (x2 : Int32) (x3 : Int32) (x4 : Int32) (h : XH) : Option (XH) :=
  xb1 (xgR h 2 1 r0) fun q2 =>
  xb1 (xaI h q2 x4) fun v3 =>
  xb1 (xaS h q2 x4 (v3 ||| x3)) fun h5 =>
  D_G_add_64 k26 r0 x2 x3 x4 h5
def D_G_add_26 : Nat → Nat → Int32 → Int32 → Int32 → XH → Option (XH)
  | 0, _, _, _, _, _ => none
  | fu + 1, r0, x2, x3, x4, h =>
  if (24 : Int32) < x4 then
    some h
  else
    if x4 = x2 then
      D_G_add_53 (D_G_add_26 fu) r0 x2 x3 x4 h
    else
      xb1 (xgR h 2 1 r0) fun q4 =>
      xb1 (xaI h q4 x4) fun v5 =>
      xb1 (X_T_isIn v5 x2 h) fun v7 =>
      if v7 = 0 then
        D_G_add_64 (D_G_add_26 fu) r0 x2 x3 x4 h
      else
        D_G_add_53 (D_G_add_26 fu) r0 x2 x3 x4 h
def D_G_add_0 (r0 : Nat) (x1 : Int32) (x2 : Int32) (h : XH) : Option (XH) :=
  xb1 (xgR h 2 0 r0) fun q2 =>
  xb1 (xaI h q2 x2) fun v3 =>
  xb1 (xaS h q2 x2 (v3 ||| ((1 : Int32) <<< (x1 &&& 31)))) fun h5 =>
  xb1 (xgR h5 2 1 r0) fun q8 =>
  xb1 (xaI h5 q8 x1) fun v9 =>
  D_G_add_26 5000 r0 x2 (v9 ||| ((1 : Int32) <<< (x1 &&& 31))) (1 : Int32) h5
def X_G_add (r0 : Nat) (x1 : Int32) (x2 : Int32) (h : XH) : Option (XH) := D_G_add_0 r0 x1 x2 h
def D_T_needs_60 (r0 : Nat) (h : XH) : Option (Int32 × XH) :=
  xb1 (xp h 0 5 r0 (.null)) fun h1 =>
  some ((1 : Int32), h1)
def D_T_needs_22 (h : XH) : Option (Int32 × XH) :=
  some ((-1 : Int32), h)
def D_T_needs_0 (r0 : Nat) (x1 : Int32) (x2 : Int32) (x3 : Int32) (h : XH) : Option (Int32 × XH) :=
  xb1 (xgR h 0 0 r0) fun q2 =>
  xchk (xis h 1 q2) <|
  xb1 (X_U_has q2 x1 h) fun v3 =>
  if v3 = 0 then
    D_T_needs_22 h
  else
    xb1 (xgR h 0 0 r0) fun q8 =>
    xchk (xis h 1 q8) <|
    xb1 (X_U_has q8 x2 h) fun v9 =>
    if v9 = 0 then
      D_T_needs_22 h
    else
      if x3 = 0 then
        xb1 (xgR h 0 1 r0) fun q15 =>
        xchk (xis h 2 q15) <|
        xb1 (X_G_wouldCloseRing q15 x1 x2 h) fun v16 =>
        if v16 = 0 then
          xb1 (xgR h 0 1 r0) fun q21 =>
          xchk (xis h 2 q21) <|
          xb1 (X_G_add q21 x1 x2 h) fun h22 =>
          D_T_needs_60 r0 h22
        else
          xb1 (xgR h 0 1 r0) fun q26 =>
          xchk (xis h 2 q26) <|
          xb1 (X_G_tellRing q26 x1 x2 h) fun h27 =>
          some ((0 : Int32), h27)
      else
        D_T_needs_60 r0 h
def X_T_needs (r0 : Nat) (x1 : Int32) (x2 : Int32) (x3 : Int32) (h : XH) : Option (Int32 × XH) := D_T_needs_0 r0 x1 x2 x3 h
def D_T_isDatum_0 (x0 : Int32) (h : XH) : Option (Int32) :=
  xb1 (X_T_isWithin x0 (1 : Int32) (20 : Int32) h) fun v1 =>
  xchk (xzb v1) (some v1)
def X_T_isDatum (x0 : Int32) (h : XH) : Option (Int32) := D_T_isDatum_0 x0 h
def D_U_addWrite_0 (r0 : Nat) (x1 : Int32) (x2 : Int32) (h : XH) : Option (XH) :=
  xb1 (xgR h 1 5 r0) fun q2 =>
  xb1 (xaI h q2 x1) fun v3 =>
  xb1 (xaS h q2 x1 (v3 ||| ((1 : Int32) <<< (x2 &&& 31)))) fun h5 =>
  some h5
def X_U_addWrite (r0 : Nat) (x1 : Int32) (x2 : Int32) (h : XH) : Option (XH) := D_U_addWrite_0 r0 x1 x2 h
def D_U_addRead_0 (r0 : Nat) (x1 : Int32) (x2 : Int32) (h : XH) : Option (XH) :=
  xb1 (xgR h 1 4 r0) fun q2 =>
  xb1 (xaI h q2 x1) fun v3 =>
  xb1 (xaS h q2 x1 (v3 ||| ((1 : Int32) <<< (x2 &&& 31)))) fun h5 =>
  some h5
def X_U_addRead (r0 : Nat) (x1 : Int32) (x2 : Int32) (h : XH) : Option (XH) := D_U_addRead_0 r0 x1 x2 h
def D_J_bitCount_0 (x0 : Int32) (h : XH) : Option (Int32) :=
  some ((((((((x0 - (((x0.toUInt32 >>> ((1 : Int32).toUInt32 &&& Int32.toUInt32 31)).toInt32) &&& (1431655765 : Int32))) &&& (858993459 : Int32)) + ((((x0 - (((x0.toUInt32 >>> ((1 : Int32).toUInt32 &&& Int32.toUInt32 31)).toInt32) &&& (1431655765 : Int32))).toUInt32 >>> ((2 : Int32).toUInt32 &&& Int32.toUInt32 31)).toInt32) &&& (858993459 : Int32))) + (((((x0 - (((x0.toUInt32 >>> ((1 : Int32).toUInt32 &&& Int32.toUInt32 31)).toInt32) &&& (1431655765 : Int32))) &&& (858993459 : Int32)) + ((((x0 - (((x0.toUInt32 >>> ((1 : Int32).toUInt32 &&& Int32.toUInt32 31)).toInt32) &&& (1431655765 : Int32))).toUInt32 >>> ((2 : Int32).toUInt32 &&& Int32.toUInt32 31)).toInt32) &&& (858993459 : Int32))).toUInt32 >>> ((4 : Int32).toUInt32 &&& Int32.toUInt32 31)).toInt32)) &&& (252645135 : Int32)) + (((((((x0 - (((x0.toUInt32 >>> ((1 : Int32).toUInt32 &&& Int32.toUInt32 31)).toInt32) &&& (1431655765 : Int32))) &&& (858993459 : Int32)) + ((((x0 - (((x0.toUInt32 >>> ((1 : Int32).toUInt32 &&& Int32.toUInt32 31)).toInt32) &&& (1431655765 : Int32))).toUInt32 >>> ((2 : Int32).toUInt32 &&& Int32.toUInt32 31)).toInt32) &&& (858993459 : Int32))) + (((((x0 - (((x0.toUInt32 >>> ((1 : Int32).toUInt32 &&& Int32.toUInt32 31)).toInt32) &&& (1431655765 : Int32))) &&& (858993459 : Int32)) + ((((x0 - (((x0.toUInt32 >>> ((1 : Int32).toUInt32 &&& Int32.toUInt32 31)).toInt32) &&& (1431655765 : Int32))).toUInt32 >>> ((2 : Int32).toUInt32 &&& Int32.toUInt32 31)).toInt32) &&& (858993459 : Int32))).toUInt32 >>> ((4 : Int32).toUInt32 &&& Int32.toUInt32 31)).toInt32)) &&& (252645135 : Int32)).toUInt32 >>> ((8 : Int32).toUInt32 &&& Int32.toUInt32 31)).toInt32)) + ((((((((x0 - (((x0.toUInt32 >>> ((1 : Int32).toUInt32 &&& Int32.toUInt32 31)).toInt32) &&& (1431655765 : Int32))) &&& (858993459 : Int32)) + ((((x0 - (((x0.toUInt32 >>> ((1 : Int32).toUInt32 &&& Int32.toUInt32 31)).toInt32) &&& (1431655765 : Int32))).toUInt32 >>> ((2 : Int32).toUInt32 &&& Int32.toUInt32 31)).toInt32) &&& (858993459 : Int32))) + (((((x0 - (((x0.toUInt32 >>> ((1 : Int32).toUInt32 &&& Int32.toUInt32 31)).toInt32) &&& (1431655765 : Int32))) &&& (858993459 : Int32)) + ((((x0 - (((x0.toUInt32 >>> ((1 : Int32).toUInt32 &&& Int32.toUInt32 31)).toInt32) &&& (1431655765 : Int32))).toUInt32 >>> ((2 : Int32).toUInt32 &&& Int32.toUInt32 31)).toInt32) &&& (858993459 : Int32))).toUInt32 >>> ((4 : Int32).toUInt32 &&& Int32.toUInt32 31)).toInt32)) &&& (252645135 : Int32)) + (((((((x0 - (((x0.toUInt32 >>> ((1 : Int32).toUInt32 &&& Int32.toUInt32 31)).toInt32) &&& (1431655765 : Int32))) &&& (858993459 : Int32)) + ((((x0 - (((x0.toUInt32 >>> ((1 : Int32).toUInt32 &&& Int32.toUInt32 31)).toInt32) &&& (1431655765 : Int32))).toUInt32 >>> ((2 : Int32).toUInt32 &&& Int32.toUInt32 31)).toInt32) &&& (858993459 : Int32))) + (((((x0 - (((x0.toUInt32 >>> ((1 : Int32).toUInt32 &&& Int32.toUInt32 31)).toInt32) &&& (1431655765 : Int32))) &&& (858993459 : Int32)) + ((((x0 - (((x0.toUInt32 >>> ((1 : Int32).toUInt32 &&& Int32.toUInt32 31)).toInt32) &&& (1431655765 : Int32))).toUInt32 >>> ((2 : Int32).toUInt32 &&& Int32.toUInt32 31)).toInt32) &&& (858993459 : Int32))).toUInt32 >>> ((4 : Int32).toUInt32 &&& Int32.toUInt32 31)).toInt32)) &&& (252645135 : Int32)).toUInt32 >>> ((8 : Int32).toUInt32 &&& Int32.toUInt32 31)).toInt32)).toUInt32 >>> ((16 : Int32).toUInt32 &&& Int32.toUInt32 31)).toInt32)) &&& (63 : Int32))
def X_J_bitCount (x0 : Int32) (h : XH) : Option (Int32) := D_J_bitCount_0 x0 h
def D_U_dataUsedBy_0 (r0 : Nat) (x1 : Int32) (h : XH) : Option (Int32) :=
  xb1 (xgR h 1 4 r0) fun q2 =>
  xb1 (xaI h q2 x1) fun v3 =>
  xb1 (xgR h 1 5 r0) fun q6 =>
  xb1 (xaI h q6 x1) fun v7 =>
  xb1 (X_J_bitCount (v3 ||| v7) h) fun v9 =>
  some v9
def X_U_dataUsedBy (r0 : Nat) (x1 : Int32) (h : XH) : Option (Int32) := D_U_dataUsedBy_0 r0 x1 h
def D_T_area_78 (r0 : Nat) (x1 : Int32) (h : XH) : Option (Int32 × XH) :=
  xb1 (xgR h 0 0 r0) fun q2 =>
  xchk (xis h 1 q2) <|
  xb1 (X_U_dataUsedBy q2 x1 h) fun v3 =>
  some (v3, h)
def D_T_area_33 (r0 : Nat) (x1 : Int32) (x3 : Int32) (s0 : Int32) (h : XH) : Option (Int32 × XH) :=
  xb1 (X_T_isDatum s0 h) fun v1 =>
  if v1 = 0 then
    some ((-2 : Int32), h)
  else
    xb1 (xp h 0 5 r0 (.null)) fun h4 =>
    if x3 = 0 then
      xb1 (xgR h4 0 0 r0) fun q8 =>
      xchk (xis h4 1 q8) <|
      xb1 (X_U_addRead q8 x1 s0 h4) fun h9 =>
      D_T_area_78 r0 x1 h9
    else
      xb1 (xgR h4 0 0 r0) fun q13 =>
      xchk (xis h4 1 q13) <|
      xb1 (X_U_addWrite q13 x1 s0 h4) fun h14 =>
      D_T_area_78 r0 x1 h14
def D_T_area_22 (r0 : Nat) (x1 : Int32) (x2 : Int32) (s0 : Int32) (h : XH) : Option (Int32 × XH) :=
  if s0 = 0 then
    D_T_area_33 r0 x1 s0 x2 h
  else
    D_T_area_33 r0 x1 s0 (-x2) h
def D_T_area_0 (r0 : Nat) (x1 : Int32) (x2 : Int32) (h : XH) : Option (Int32 × XH) :=
  xb1 (xgR h 0 0 r0) fun q2 =>
  xchk (xis h 1 q2) <|
  xb1 (X_U_has q2 x1 h) fun v3 =>
  if v3 = 0 then
    some ((-1 : Int32), h)
  else
    if 0 ≤ x2 then
      D_T_area_22 r0 x1 x2 (0 : Int32) h
    else
      D_T_area_22 r0 x1 x2 (1 : Int32) h
def X_T_area (r0 : Nat) (x1 : Int32) (x2 : Int32) (h : XH) : Option (Int32 × XH) := D_T_area_0 r0 x1 x2 h
def D_U_opensTask_50 (k13 : Nat → Int32 → Int32 → XH → Option (Int32)) (r0 : Nat) (x1 : Int32) (x2 : Int32) (h : XH) : Option (Int32) :=
  k13 r0 x1 (x2 + 1) h
def D_U_opensTask_13 : Nat → Nat → Int32 → Int32 → XH → Option (Int32)
  | 0, _, _, _, _ => none
  | fu + 1, r0, x1, x2, h =>
  if x1 ≤ x2 then
    some (1 : Int32)
  else
    xb1 (xgR h 1 2 r0) fun q3 =>
    xb1 (xaI h q3 x2) fun v4 =>
    xb1 (xgR h 1 2 r0) fun q7 =>
    xb1 (xaI h q7 x1) fun v8 =>
    if v4 = v8 then
      xb1 (xgR h 1 1 r0) fun q12 =>
      xb1 (xaI h q12 x2) fun v13 =>
      xb1 (xgR h 1 1 r0) fun q16 =>
      xb1 (xaI h q16 x1) fun v17 =>
      if v13 = v17 then
        some (0 : Int32)
      else
        D_U_opensTask_50 (D_U_opensTask_13 fu) r0 x1 x2 h
    else
      D_U_opensTask_50 (D_U_opensTask_13 fu) r0 x1 x2 h
def D_U_opensTask_0 (r0 : Nat) (x1 : Int32) (h : XH) : Option (Int32) :=
  xb1 (xgR h 1 1 r0) fun q2 =>
  xb1 (xaI h q2 x1) fun v3 =>
  if v3 = 0 then
    some (1 : Int32)
  else
    D_U_opensTask_13 5000 r0 x1 (1 : Int32) h
def X_U_opensTask (r0 : Nat) (x1 : Int32) (h : XH) : Option (Int32) := D_U_opensTask_0 r0 x1 h
def D_U_tasksOn_33 (k4 : Nat → Int32 → Int32 → Int32 → XH → Option (Int32)) (r0 : Nat) (x1 : Int32) (x2 : Int32) (x3 : Int32) (h : XH) : Option (Int32) :=
  k4 r0 x1 x2 (x3 + 1) h
def D_U_tasksOn_4 : Nat → Nat → Int32 → Int32 → Int32 → XH → Option (Int32)
  | 0, _, _, _, _, _ => none
  | fu + 1, r0, x1, x2, x3, h =>
  xb1 (xgI h 1 0 r0) fun v2 =>
  if v2 < x3 then
    some x2
  else
    xb1 (xgR h 1 2 r0) fun q5 =>
    xb1 (xaI h q5 x3) fun v6 =>
    if v6 = x1 then
      xchk (xis h 1 r0) <|
      xb1 (X_U_opensTask r0 x3 h) fun v9 =>
      if v9 = 0 then
        D_U_tasksOn_33 (D_U_tasksOn_4 fu) r0 x1 x2 x3 h
      else
        D_U_tasksOn_33 (D_U_tasksOn_4 fu) r0 x1 (x2 + 1) x3 h
    else
      D_U_tasksOn_33 (D_U_tasksOn_4 fu) r0 x1 x2 x3 h
def D_U_tasksOn_0 (r0 : Nat) (x1 : Int32) (h : XH) : Option (Int32) :=
  D_U_tasksOn_4 5000 r0 x1 (0 : Int32) (1 : Int32) h
def X_U_tasksOn (r0 : Nat) (x1 : Int32) (h : XH) : Option (Int32) := D_U_tasksOn_0 r0 x1 h
def D_T_nextPlan_0 (r0 : Nat) (n : Nat) (h : XH) : Option (Nat × Nat × XH) :=
  xb1 (xgI h 0 3 r0) fun v2 =>
  xb1 (xgR h 0 2 r0) fun q4 =>
  xb1 (xaN h q4) fun v5 =>
  if v2 < v5 then
    xb1 (some (va_up h (n + 1) (.inr (3, [.int 0, .null, .null, .null, .null, .null])))) fun h8 =>
    xb2 (X_P_init (n + 1) (n + 1) h8) fun n10 h11 =>
    xb1 (xgR h11 0 2 r0) fun q14 =>
    xb1 (xgI h11 0 3 r0) fun v16 =>
    xb1 (xaQ h11 "TaskBuild$Plan" 3 q14 v16 (n + 1)) fun h17 =>
    xb1 (xgI h17 0 3 r0) fun v20 =>
    xb1 (xp h17 0 3 r0 (.int (v20 + (1 : Int32)))) fun h21 =>
    some (n + 1, n10, h21)
  else
    xb1 (xgR h 0 4 r0) fun q24 =>
    some (q24, n, h)
def X_T_nextPlan (r0 : Nat) (n : Nat) (h : XH) : Option (Nat × Nat × XH) := D_T_nextPlan_0 r0 n h
def D_U_group_43 (k5 : Nat → Int32 → Int32 → Int32 → Int32 → XH → Option (Int32)) (r0 : Nat) (x1 : Int32) (x2 : Int32) (x3 : Int32) (x4 : Int32) (h : XH) : Option (Int32) :=
  k5 r0 x1 x2 x3 (x4 + 1) h
def D_U_group_5 : Nat → Nat → Int32 → Int32 → Int32 → Int32 → XH → Option (Int32)
  | 0, _, _, _, _, _, _ => none
  | fu + 1, r0, x1, x2, x3, x4, h =>
  xb1 (xgI h 1 0 r0) fun v2 =>
  if v2 < x4 then
    some x3
  else
    xb1 (xgR h 1 2 r0) fun q5 =>
    xb1 (xaI h q5 x4) fun v6 =>
    if v6 = x1 then
      xb1 (xgR h 1 1 r0) fun q10 =>
      xb1 (xaI h q10 x4) fun v11 =>
      if v11 = x2 then
        D_U_group_43 (D_U_group_5 fu) r0 x1 x2 (x3 ||| ((1 : Int32) <<< (x4 &&& 31))) x4 h
      else
        D_U_group_43 (D_U_group_5 fu) r0 x1 x2 x3 x4 h
    else
      D_U_group_43 (D_U_group_5 fu) r0 x1 x2 x3 x4 h
def D_U_group_0 (r0 : Nat) (x1 : Int32) (x2 : Int32) (h : XH) : Option (Int32) :=
  D_U_group_5 5000 r0 x1 x2 (0 : Int32) (1 : Int32) h
def X_U_group (r0 : Nat) (x1 : Int32) (x2 : Int32) (h : XH) : Option (Int32) := D_U_group_0 r0 x1 x2 h
def D_G_leastFree_29 (k2 : Nat → Int32 → Int32 → XH → Option (Int32)) (r0 : Nat) (x1 : Int32) (x2 : Int32) (h : XH) : Option (Int32) :=
  k2 r0 x1 (x2 + 1) h
def D_G_leastFree_2 : Nat → Nat → Int32 → Int32 → XH → Option (Int32)
  | 0, _, _, _, _ => none
  | fu + 1, r0, x1, x2, h =>
  if (24 : Int32) < x2 then
    some (0 : Int32)
  else
    xb1 (X_T_isIn x1 x2 h) fun v2 =>
    if v2 = 0 then
      D_G_leastFree_29 (D_G_leastFree_2 fu) r0 x1 x2 h
    else
      xb1 (xgR h 2 1 r0) fun q6 =>
      xb1 (xaI h q6 x2) fun v7 =>
      if (v7 &&& x1) = 0 then
        some x2
      else
        D_G_leastFree_29 (D_G_leastFree_2 fu) r0 x1 x2 h
def D_G_leastFree_0 (r0 : Nat) (x1 : Int32) (h : XH) : Option (Int32) :=
  D_G_leastFree_2 5000 r0 x1 (1 : Int32) h
def X_G_leastFree (r0 : Nat) (x1 : Int32) (h : XH) : Option (Int32) := D_G_leastFree_0 r0 x1 h
def D_P_addTask_104 (r0 : Nat) (x5 : Int32) (h : XH) : Option (XH) :=
  xb1 (xgR h 3 5 r0) fun q2 =>
  xb1 (xgI h 3 0 r0) fun v4 =>
  xb1 (xaS h q2 (v4 + (1 : Int32)) x5) fun h5 =>
  some h5
def D_P_addTask_44 : Nat → Nat → Nat → Int32 → Int32 → XH → Option (XH)
  | 0, _, _, _, _, _ => none
  | fu + 1, r0, r3, x4, x5, h =>
  if x4 = 0 then
    D_P_addTask_104 r0 x5 h
  else
    xb1 (xgR h 3 4 r0) fun q3 =>
    xb1 (xaN h q3) fun v4 =>
    if v4 ≤ x5 then
      D_P_addTask_104 r0 x5 h
    else
      xchk (xis h 2 r3) <|
      xb1 (X_G_leastFree r3 x4 h) fun v7 =>
      xb1 (xgR h 3 4 r0) fun q11 =>
      xb1 (xaS h q11 x5 v7) fun h12 =>
      xb1 (xgR h12 3 1 r0) fun q15 =>
      xb1 (xgI h12 3 0 r0) fun v17 =>
      xb1 (xaS h12 q15 v7 v17) fun h18 =>
      D_P_addTask_44 fu r0 r3 (x4 &&& (((1 : Int32) <<< (v7 &&& 31)) ^^^ (-1 : Int32))) (x5 + 1) h18
def D_P_addTask_0 (r0 : Nat) (x1 : Int32) (x2 : Int32) (r3 : Nat) (h : XH) : Option (XH) :=
  xb1 (xgI h 3 0 r0) fun v2 =>
  if v2 < (24 : Int32) then
    xb1 (xgI h 3 0 r0) fun v5 =>
    xb1 (xp h 3 0 r0 (.int (v5 + (1 : Int32)))) fun h6 =>
    xb1 (xgR h6 3 2 r0) fun q9 =>
    xb1 (xgI h6 3 0 r0) fun v11 =>
    xb1 (xaS h6 q9 v11 x1) fun h12 =>
    xb1 (xgR h12 3 5 r0) fun q15 =>
    xb1 (xgI h12 3 0 r0) fun v17 =>
    xb1 (xaI h12 q15 v17) fun v18 =>
    D_P_addTask_44 5000 r0 r3 x2 v18 h12
  else
    some h
def X_P_addTask (r0 : Nat) (x1 : Int32) (x2 : Int32) (r3 : Nat) (h : XH) : Option (XH) := D_P_addTask_0 r0 x1 x2 r3 h
def D_P_addEventTasks_38 (k11 : Nat → Nat → Int32 → Int32 → XH → Option (XH)) (r0 : Nat) (r3 : Nat) (x4 : Int32) (x5 : Int32) (h : XH) : Option (XH) :=
  k11 r0 r3 x4 (x5 + 1) h
def D_P_addEventTasks_11 : Nat → Nat → Nat → Int32 → Int32 → XH → Option (XH)
  | 0, _, _, _, _, _ => none
  | fu + 1, r0, r3, x4, x5, h =>
  if (24 : Int32) < x5 then
    some h
  else
    xb1 (X_T_isIn x4 x5 h) fun v2 =>
    if v2 = 0 then
      D_P_addEventTasks_38 (D_P_addEventTasks_11 fu) r0 r3 x4 x5 h
    else
      xchk (xis h 3 r0) <|
      xb1 (X_P_addTask r0 (0 : Int32) ((1 : Int32) <<< (x5 &&& 31)) r3 h) fun h5 =>
      D_P_addEventTasks_38 (D_P_addEventTasks_11 fu) r0 r3 x4 x5 h5
def D_P_addEventTasks_0 (r0 : Nat) (x1 : Int32) (r2 : Nat) (r3 : Nat) (h : XH) : Option (XH) :=
  xchk (xis h 1 r2) <|
  xb1 (X_U_group r2 x1 (0 : Int32) h) fun v1 =>
  D_P_addEventTasks_11 5000 r0 r3 v1 (1 : Int32) h
def X_P_addEventTasks (r0 : Nat) (x1 : Int32) (r2 : Nat) (r3 : Nat) (h : XH) : Option (XH) := D_P_addEventTasks_0 r0 x1 r2 r3 h
def D_U_periodAbove_59 (k5 : Nat → Int32 → Int32 → Int32 → Int32 → XH → Option (Int32)) (r0 : Nat) (x1 : Int32) (x2 : Int32) (x3 : Int32) (x4 : Int32) (h : XH) : Option (Int32) :=
  k5 r0 x1 x2 x3 (x4 + 1) h
def D_U_periodAbove_51 (k5 : Nat → Int32 → Int32 → Int32 → Int32 → XH → Option (Int32)) (r0 : Nat) (x1 : Int32) (x2 : Int32) (x4 : Int32) (h : XH) : Option (Int32) :=
  xb1 (xgR h 1 1 r0) fun q2 =>
  xb1 (xaI h q2 x4) fun v3 =>
  D_U_periodAbove_59 k5 r0 x1 x2 v3 x4 h
def D_U_periodAbove_5 : Nat → Nat → Int32 → Int32 → Int32 → Int32 → XH → Option (Int32)
  | 0, _, _, _, _, _, _ => none
  | fu + 1, r0, x1, x2, x3, x4, h =>
  xb1 (xgI h 1 0 r0) fun v2 =>
  if v2 < x4 then
    some x3
  else
    xb1 (xgR h 1 2 r0) fun q5 =>
    xb1 (xaI h q5 x4) fun v6 =>
    if v6 = x1 then
      xb1 (xgR h 1 1 r0) fun q10 =>
      xb1 (xaI h q10 x4) fun v11 =>
      if v11 ≤ x2 then
        D_U_periodAbove_59 (D_U_periodAbove_5 fu) r0 x1 x2 x3 x4 h
      else
        if x3 = 0 then
          D_U_periodAbove_51 (D_U_periodAbove_5 fu) r0 x1 x2 x4 h
        else
          xb1 (xgR h 1 1 r0) fun q16 =>
          xb1 (xaI h q16 x4) fun v17 =>
          if x3 ≤ v17 then
            D_U_periodAbove_59 (D_U_periodAbove_5 fu) r0 x1 x2 x3 x4 h
          else
            D_U_periodAbove_51 (D_U_periodAbove_5 fu) r0 x1 x2 x4 h
    else
      D_U_periodAbove_59 (D_U_periodAbove_5 fu) r0 x1 x2 x3 x4 h
def D_U_periodAbove_0 (r0 : Nat) (x1 : Int32) (x2 : Int32) (h : XH) : Option (Int32) :=
  D_U_periodAbove_5 5000 r0 x1 x2 (0 : Int32) (1 : Int32) h
def X_U_periodAbove (r0 : Nat) (x1 : Int32) (x2 : Int32) (h : XH) : Option (Int32) := D_U_periodAbove_0 r0 x1 x2 h
def D_P_addPeriodTasks_52 (h : XH) : Option (XH) :=
  some h
def D_P_addPeriodTasks_11 : Nat → Nat → Int32 → Nat → Nat → Int32 → Int32 → XH → Option (XH)
  | 0, _, _, _, _, _, _, _ => none
  | fu + 1, r0, x1, r2, r3, x4, x5, h =>
  if (24 : Int32) ≤ x5 then
    D_P_addPeriodTasks_52 h
  else
    if x4 ≤ 0 then
      D_P_addPeriodTasks_52 h
    else
      xchk (xis h 1 r2) <|
      xb1 (X_U_group r2 x1 x4 h) fun v3 =>
      xchk (xis h 3 r0) <|
      xb1 (X_P_addTask r0 x4 v3 r3 h) fun h6 =>
      xchk (xis h6 1 r2) <|
      xb1 (X_U_periodAbove r2 x1 x4 h6) fun v9 =>
      D_P_addPeriodTasks_11 fu r0 x1 r2 r3 v9 (x5 + 1) h6
def D_P_addPeriodTasks_0 (r0 : Nat) (x1 : Int32) (r2 : Nat) (r3 : Nat) (h : XH) : Option (XH) :=
  xchk (xis h 1 r2) <|
  xb1 (X_U_periodAbove r2 x1 (0 : Int32) h) fun v1 =>
  D_P_addPeriodTasks_11 5000 r0 x1 r2 r3 v1 (0 : Int32) h
def X_P_addPeriodTasks (r0 : Nat) (x1 : Int32) (r2 : Nat) (r3 : Nat) (h : XH) : Option (XH) := D_P_addPeriodTasks_0 r0 x1 r2 r3 h
def D_P_layOut_38 (k7 : Nat → Nat → Nat → Int32 → XH → Option (XH)) : Nat → Nat → Nat → Nat → Int32 → Int32 → XH → Option (XH)
  | 0, _, _, _, _, _, _ => none
  | fu + 1, r0, r1, r2, x3, x5, h =>
  xb1 (xgI h 3 0 r0) fun v2 =>
  if v2 < x5 then
    k7 r0 r1 r2 (x3 + 1) h
  else
    xb1 (xgR h 3 3 r0) fun q5 =>
    xb1 (xgI h 3 0 r0) fun v7 =>
    xb1 (xaS h q5 x5 ((v7 - x5) + (1 : Int32))) fun h8 =>
    D_P_layOut_38 k7 fu r0 r1 r2 x3 (x5 + 1) h8
def D_P_layOut_7 : Nat → Nat → Nat → Nat → Int32 → XH → Option (XH)
  | 0, _, _, _, _, _ => none
  | fu + 1, r0, r1, r2, x3, h =>
  if (4 : Int32) < x3 then
    some h
  else
    xb1 (xgI h 3 0 r0) fun v3 =>
    xchk (xis h 3 r0) <|
    xb1 (X_P_addEventTasks r0 x3 r1 r2 h) fun h4 =>
    xchk (xis h4 3 r0) <|
    xb1 (X_P_addPeriodTasks r0 x3 r1 r2 h4) fun h7 =>
    D_P_layOut_38 (D_P_layOut_7 fu) 5000 r0 r1 r2 x3 (v3 + (1 : Int32)) h7
def D_P_layOut_0 (r0 : Nat) (r1 : Nat) (r2 : Nat) (h : XH) : Option (XH) :=
  xb1 (xp h 3 0 r0 (.int (0 : Int32))) fun h1 =>
  D_P_layOut_7 5000 r0 r1 r2 (1 : Int32) h1
def X_P_layOut (r0 : Nat) (r1 : Nat) (r2 : Nat) (h : XH) : Option (XH) := D_P_layOut_0 r0 r1 r2 h
def D_T_build_7 : Nat → Nat → Int32 → Nat → XH → Option (Int32 × Nat × XH)
  | 0, _, _, _, _ => none
  | fu + 1, r0, x1, n, h =>
  if (4 : Int32) < x1 then
    xchk (xis h 0 r0) <|
    xb3 (X_T_nextPlan r0 n h) fun q2 n3 h4 =>
    xb1 (xgR h4 0 0 r0) fun q8 =>
    xb1 (xgR h4 0 1 r0) fun q10 =>
    xchk (xis h4 3 q2) <|
    xb1 (X_P_layOut q2 q8 q10 h4) fun h11 =>
    xb1 (xp h11 0 5 r0 (.ref q2)) fun h14 =>
    xb1 (xgI h14 3 0 q2) fun v17 =>
    some (v17, n3, h14)
  else
    xb1 (xgR h 0 0 r0) fun q19 =>
    xchk (xis h 1 q19) <|
    xb1 (X_U_tasksOn q19 x1 h) fun v20 =>
    if v20 ≤ (12 : Int32) then
      D_T_build_7 fu r0 (x1 + 1) n h
    else
      some ((-4 : Int32), n, h)
def D_T_build_0 (r0 : Nat) (n : Nat) (h : XH) : Option (Int32 × Nat × XH) :=
  xb1 (xp h 0 5 r0 (.null)) fun h1 =>
  D_T_build_7 5000 r0 (1 : Int32) n h1
def X_T_build (r0 : Nat) (n : Nat) (h : XH) : Option (Int32 × Nat × XH) := D_T_build_0 r0 n h
def D_T_task_0 (r0 : Nat) (x1 : Int32) (h : XH) : Option (Int32) :=
  xb1 (xgR h 0 0 r0) fun q2 =>
  xchk (xis h 1 q2) <|
  xb1 (X_U_has q2 x1 h) fun v3 =>
  if v3 = 0 then
    some (-1 : Int32)
  else
    xb1 (xgQ h 0 5 r0) fun o8 =>
    xq o8 (
      some (-3 : Int32))
    fun q9 =>
      xb1 (xgQ h 0 5 r0) fun o11 =>
      xq o11 (
        none)
      fun q12 =>
        xb1 (xgR h 3 1 q12) fun q14 =>
        xb1 (xaI h q14 x1) fun v15 =>
        some v15
def X_T_task (r0 : Nat) (x1 : Int32) (h : XH) : Option (Int32) := D_T_task_0 r0 x1 h
def D_P_hasTask_0 (r0 : Nat) (x1 : Int32) (h : XH) : Option (Int32) :=
  xb1 (xgI h 3 0 r0) fun v2 =>
  xb1 (X_T_isWithin x1 (1 : Int32) v2 h) fun v3 =>
  xchk (xzb v3) (some v3)
def X_P_hasTask (r0 : Nat) (x1 : Int32) (h : XH) : Option (Int32) := D_P_hasTask_0 r0 x1 h
def D_P_sizeOf_0 (r0 : Nat) (x1 : Int32) (h : XH) : Option (Int32) :=
  xb1 (xgR h 3 5 r0) fun q2 =>
  xb1 (xaI h q2 (x1 + (1 : Int32))) fun v3 =>
  xb1 (xgR h 3 5 r0) fun q6 =>
  xb1 (xaI h q6 x1) fun v7 =>
  some (v3 - v7)
def X_P_sizeOf (r0 : Nat) (x1 : Int32) (h : XH) : Option (Int32) := D_P_sizeOf_0 r0 x1 h
def D_P_runnableAt_30 (s0 : Int32) (h : XH) : Option (Int32) :=
  some s0
def D_P_runnableAt_29 (h : XH) : Option (Int32) :=
  D_P_runnableAt_30 (0 : Int32) h
def D_P_runnableAt_0 (r0 : Nat) (x1 : Int32) (x2 : Int32) (h : XH) : Option (Int32) :=
  if x2 < 0 then
    D_P_runnableAt_29 h
  else
    xchk (xis h 3 r0) <|
    xb1 (X_P_sizeOf r0 x1 h) fun v2 =>
    if v2 ≤ x2 then
      D_P_runnableAt_29 h
    else
      xb1 (xgR h 3 4 r0) fun q7 =>
      xb1 (xgR h 3 5 r0) fun q9 =>
      xb1 (xaI h q9 x1) fun v10 =>
      xb1 (xaI h q7 (v10 + x2)) fun v12 =>
      D_P_runnableAt_30 v12 h
def X_P_runnableAt (r0 : Nat) (x1 : Int32) (x2 : Int32) (h : XH) : Option (Int32) := D_P_runnableAt_0 r0 x1 x2 h
def D_T_order_0 (r0 : Nat) (x1 : Int32) (x2 : Int32) (h : XH) : Option (Int32) :=
  xb1 (xgQ h 0 5 r0) fun o2 =>
  xq o2 (
    some (-3 : Int32))
  fun q3 =>
    xb1 (xgQ h 0 5 r0) fun o5 =>
    xq o5 (
      none)
    fun q6 =>
      xchk (xis h 3 q6) <|
      xb1 (X_P_hasTask q6 x1 h) fun v7 =>
      if v7 = 0 then
        some (-1 : Int32)
      else
        xb1 (xgQ h 0 5 r0) fun o12 =>
        xq o12 (
          none)
        fun q13 =>
          xchk (xis h 3 q13) <|
          xb1 (X_P_runnableAt q13 x1 x2 h) fun v14 =>
          some v14
def X_T_order (r0 : Nat) (x1 : Int32) (x2 : Int32) (h : XH) : Option (Int32) := D_T_order_0 r0 x1 x2 h
def D_T_rank_0 (r0 : Nat) (x1 : Int32) (h : XH) : Option (Int32) :=
  xb1 (xgQ h 0 5 r0) fun o2 =>
  xq o2 (
    some (-3 : Int32))
  fun q3 =>
    xb1 (xgQ h 0 5 r0) fun o5 =>
    xq o5 (
      none)
    fun q6 =>
      xchk (xis h 3 q6) <|
      xb1 (X_P_hasTask q6 x1 h) fun v7 =>
      if v7 = 0 then
        some (-1 : Int32)
      else
        xb1 (xgQ h 0 5 r0) fun o12 =>
        xq o12 (
          none)
        fun q13 =>
          xb1 (xgR h 3 3 q13) fun q15 =>
          xb1 (xaI h q15 x1) fun v16 =>
          some v16
def X_T_rank (r0 : Nat) (x1 : Int32) (h : XH) : Option (Int32) := D_T_rank_0 r0 x1 h
def D_P_isWrittenAbove_86 (k16 : Nat → Int32 → Nat → Int32 → Int32 → Int32 → XH → Option (Int32)) (r0 : Nat) (x1 : Int32) (r2 : Nat) (x3 : Int32) (x4 : Int32) (x5 : Int32) (h : XH) : Option (Int32) :=
  k16 r0 x1 r2 x3 x4 (x5 + 1) h
def D_P_isWrittenAbove_60 (k16 : Nat → Int32 → Nat → Int32 → Int32 → Int32 → XH → Option (Int32)) (r0 : Nat) (x1 : Int32) (r2 : Nat) (x3 : Int32) (x4 : Int32) (x5 : Int32) (s0 : Int32) (h : XH) : Option (Int32) :=
  if s0 = 0 then
    D_P_isWrittenAbove_86 k16 r0 x1 r2 x3 x4 x5 h
  else
    xb1 (xgR h 3 3 r0) fun q3 =>
    xb1 (xgR h 3 1 r0) fun q5 =>
    xb1 (xaI h q5 x5) fun v6 =>
    xb1 (xaI h q3 v6) fun v8 =>
    if v8 ≤ x4 then
      D_P_isWrittenAbove_86 k16 r0 x1 r2 x3 x4 x5 h
    else
      some (1 : Int32)
def D_P_isWrittenAbove_59 (k16 : Nat → Int32 → Nat → Int32 → Int32 → Int32 → XH → Option (Int32)) (r0 : Nat) (x1 : Int32) (r2 : Nat) (x3 : Int32) (x4 : Int32) (x5 : Int32) (h : XH) : Option (Int32) :=
  D_P_isWrittenAbove_60 k16 r0 x1 r2 x3 x4 x5 (0 : Int32) h
def D_P_isWrittenAbove_16 : Nat → Nat → Int32 → Nat → Int32 → Int32 → Int32 → XH → Option (Int32)
  | 0, _, _, _, _, _, _, _ => none
  | fu + 1, r0, x1, r2, x3, x4, x5, h =>
  xb1 (xgI h 1 0 r2) fun v2 =>
  if v2 < x5 then
    some (0 : Int32)
  else
    xb1 (xgR h 1 5 r2) fun q5 =>
    xb1 (xaI h q5 x5) fun v6 =>
    xb1 (X_T_isIn v6 x3 h) fun v8 =>
    if v8 = 0 then
      D_P_isWrittenAbove_59 (D_P_isWrittenAbove_16 fu) r0 x1 r2 x3 x4 x5 h
    else
      xb1 (xgR h 1 2 r2) fun q12 =>
      xb1 (xaI h q12 x5) fun v13 =>
      xb1 (xgR h 1 2 r2) fun q16 =>
      xb1 (xaI h q16 x1) fun v17 =>
      if v13 = v17 then
        D_P_isWrittenAbove_60 (D_P_isWrittenAbove_16 fu) r0 x1 r2 x3 x4 x5 (1 : Int32) h
      else
        D_P_isWrittenAbove_59 (D_P_isWrittenAbove_16 fu) r0 x1 r2 x3 x4 x5 h
def D_P_isWrittenAbove_0 (r0 : Nat) (x1 : Int32) (r2 : Nat) (x3 : Int32) (h : XH) : Option (Int32) :=
  xb1 (xgR h 3 3 r0) fun q2 =>
  xb1 (xgR h 3 1 r0) fun q4 =>
  xb1 (xaI h q4 x1) fun v5 =>
  xb1 (xaI h q2 v5) fun v7 =>
  D_P_isWrittenAbove_16 5000 r0 x1 r2 x3 v7 (1 : Int32) h
def X_P_isWrittenAbove (r0 : Nat) (x1 : Int32) (r2 : Nat) (x3 : Int32) (h : XH) : Option (Int32) := D_P_isWrittenAbove_0 r0 x1 r2 x3 h
def D_P_isCopied_35 (k2 : Nat → Nat → Int32 → Int32 → XH → Option (Int32)) (r0 : Nat) (r1 : Nat) (x2 : Int32) (x3 : Int32) (h : XH) : Option (Int32) :=
  k2 r0 r1 x2 (x3 + 1) h
def D_P_isCopied_2 : Nat → Nat → Nat → Int32 → Int32 → XH → Option (Int32)
  | 0, _, _, _, _, _ => none
  | fu + 1, r0, r1, x2, x3, h =>
  xb1 (xgI h 1 0 r1) fun v2 =>
  if v2 < x3 then
    some (0 : Int32)
  else
    xb1 (xgR h 1 4 r1) fun q5 =>
    xb1 (xaI h q5 x3) fun v6 =>
    xb1 (X_T_isIn v6 x2 h) fun v8 =>
    if v8 = 0 then
      D_P_isCopied_35 (D_P_isCopied_2 fu) r0 r1 x2 x3 h
    else
      xchk (xis h 3 r0) <|
      xb1 (X_P_isWrittenAbove r0 x3 r1 x2 h) fun v11 =>
      if v11 = 0 then
        D_P_isCopied_35 (D_P_isCopied_2 fu) r0 r1 x2 x3 h
      else
        some (1 : Int32)
def D_P_isCopied_0 (r0 : Nat) (r1 : Nat) (x2 : Int32) (h : XH) : Option (Int32) :=
  D_P_isCopied_2 5000 r0 r1 x2 (1 : Int32) h
def X_P_isCopied (r0 : Nat) (r1 : Nat) (x2 : Int32) (h : XH) : Option (Int32) := D_P_isCopied_0 r0 r1 x2 h
def D_T_buffer_40 (s0 : Int32) (h : XH) : Option (Int32) :=
  some s0
def D_T_buffer_0 (r0 : Nat) (x1 : Int32) (h : XH) : Option (Int32) :=
  xb1 (X_T_isDatum x1 h) fun v1 =>
  if v1 = 0 then
    some (-2 : Int32)
  else
    xb1 (xgQ h 0 5 r0) fun o5 =>
    xq o5 (
      some (-3 : Int32))
    fun q6 =>
      xb1 (xgQ h 0 5 r0) fun o8 =>
      xq o8 (
        xb1 (xgR h 0 0 r0) fun q11 =>
        none)
      fun q9 =>
        xb1 (xgR h 0 0 r0) fun q13 =>
        xchk (xis h 3 q9) <|
        xb1 (X_P_isCopied q9 q13 x1 h) fun v14 =>
        if v14 = 0 then
          D_T_buffer_40 (0 : Int32) h
        else
          D_T_buffer_40 (1 : Int32) h
def X_T_buffer (r0 : Nat) (x1 : Int32) (h : XH) : Option (Int32) := D_T_buffer_0 r0 x1 h
def D_P_startAt_47 (k5 : Nat → Int32 → Int32 → Int32 → Int32 → XH → Option (Int32)) (r0 : Nat) (x1 : Int32) (x2 : Int32) (x3 : Int32) (x4 : Int32) (h : XH) : Option (Int32) :=
  k5 r0 x1 x2 x3 (x4 + 1) h
def D_P_startAt_5 : Nat → Nat → Int32 → Int32 → Int32 → Int32 → XH → Option (Int32)
  | 0, _, _, _, _, _, _ => none
  | fu + 1, r0, x1, x2, x3, x4, h =>
  xb1 (xgI h 3 0 r0) fun v2 =>
  if v2 < x4 then
    some (0 : Int32)
  else
    xb1 (xgR h 3 2 r0) fun q5 =>
    xb1 (xaI h q5 x4) fun v6 =>
    if v6 ≤ 0 then
      D_P_startAt_47 (D_P_startAt_5 fu) r0 x1 x2 x3 x4 h
    else
      xb1 (xgR h 3 2 r0) fun q10 =>
      xb1 (xaI h q10 x4) fun v11 =>
      if v11 = 0 then none else
      if (x1 - x1 / v11 * v11) = 0 then
        if x3 = x2 then
          some x4
        else
          D_P_startAt_47 (D_P_startAt_5 fu) r0 x1 x2 (x3 + 1) x4 h
      else
        D_P_startAt_47 (D_P_startAt_5 fu) r0 x1 x2 x3 x4 h
def D_P_startAt_0 (r0 : Nat) (x1 : Int32) (x2 : Int32) (h : XH) : Option (Int32) :=
  D_P_startAt_5 5000 r0 x1 x2 (0 : Int32) (1 : Int32) h
def X_P_startAt (r0 : Nat) (x1 : Int32) (x2 : Int32) (h : XH) : Option (Int32) := D_P_startAt_0 r0 x1 x2 h
def D_T_table_0 (r0 : Nat) (x1 : Int32) (x2 : Int32) (h : XH) : Option (Int32) :=
  if 0 ≤ x1 then
    xb1 (xgQ h 0 5 r0) fun o3 =>
    xq o3 (
      some (-3 : Int32))
    fun q4 =>
      xb1 (xgQ h 0 5 r0) fun o6 =>
      xq o6 (
        none)
      fun q7 =>
        xchk (xis h 3 q7) <|
        xb1 (X_P_startAt q7 x1 x2 h) fun v8 =>
        some v8
  else
    some (-2 : Int32)
def X_T_table (r0 : Nat) (x1 : Int32) (x2 : Int32) (h : XH) : Option (Int32) := D_T_table_0 r0 x1 x2 h
def D_G_toldAt_22 (s0 : Int32) (h : XH) : Option (Int32) :=
  some s0
def D_G_toldAt_21 (h : XH) : Option (Int32) :=
  D_G_toldAt_22 (0 : Int32) h
def D_G_toldAt_0 (r0 : Nat) (x1 : Int32) (h : XH) : Option (Int32) :=
  if x1 < 0 then
    D_G_toldAt_21 h
  else
    xb1 (xgI h 2 4 r0) fun v3 =>
    if v3 ≤ x1 then
      D_G_toldAt_21 h
    else
      xb1 (xgR h 2 3 r0) fun q6 =>
      xb1 (xaI h q6 x1) fun v7 =>
      D_G_toldAt_22 v7 h
def X_G_toldAt (r0 : Nat) (x1 : Int32) (h : XH) : Option (Int32) := D_G_toldAt_0 r0 x1 h
def D_T_ring_0 (r0 : Nat) (x1 : Int32) (h : XH) : Option (Int32) :=
  xb1 (xgR h 0 1 r0) fun q2 =>
  xchk (xis h 2 q2) <|
  xb1 (X_G_toldAt q2 x1 h) fun v3 =>
  some v3
def X_T_ring (r0 : Nat) (x1 : Int32) (h : XH) : Option (Int32) := D_T_ring_0 r0 x1 h
def D_U_copiesAcross_121 (k80 : Int32 → Int32 → Int32 → Int32 → XH → Option (Int32)) (x2 : Int32) (x3 : Int32) (x4 : Int32) (x5 : Int32) (h : XH) : Option (Int32) :=
  k80 x2 x3 x4 (x5 + 1) h
def D_U_copiesAcross_102 (k80 : Int32 → Int32 → Int32 → Int32 → XH → Option (Int32)) (x2 : Int32) (x3 : Int32) (x4 : Int32) (x5 : Int32) (s0 : Int32) (h : XH) : Option (Int32) :=
  xb1 (X_T_isIn x2 x5 h) fun v1 =>
  if v1 = 0 then
    D_U_copiesAcross_121 k80 x2 x3 x4 x5 h
  else
    if s0 = 0 then
      D_U_copiesAcross_121 k80 x2 x3 x4 x5 h
    else
      D_U_copiesAcross_121 k80 x2 x3 (x4 + 1) x5 h
def D_U_copiesAcross_80 : Nat → Int32 → Int32 → Int32 → Int32 → XH → Option (Int32)
  | 0, _, _, _, _, _ => none
  | fu + 1, x2, x3, x4, x5, h =>
  if (4 : Int32) < x5 then
    some x4
  else
    if (x3 &&& (((1 : Int32) <<< (x5 &&& 31)) ^^^ (-1 : Int32))) = 0 then
      D_U_copiesAcross_102 (D_U_copiesAcross_80 fu) x2 x3 x4 x5 (0 : Int32) h
    else
      D_U_copiesAcross_102 (D_U_copiesAcross_80 fu) x2 x3 x4 x5 (1 : Int32) h
def D_U_copiesAcross_68 (k7 : Nat → Int32 → Int32 → Int32 → Int32 → XH → Option (Int32)) (r0 : Nat) (x1 : Int32) (x2 : Int32) (x3 : Int32) (x4 : Int32) (h : XH) : Option (Int32) :=
  k7 r0 x1 x2 x3 (x4 + 1) h
def D_U_copiesAcross_42 (k7 : Nat → Int32 → Int32 → Int32 → Int32 → XH → Option (Int32)) (r0 : Nat) (x1 : Int32) (x2 : Int32) (x3 : Int32) (x4 : Int32) (h : XH) : Option (Int32) :=
  xb1 (xgR h 1 5 r0) fun q2 =>
  xb1 (xaI h q2 x4) fun v3 =>
  xb1 (X_T_isIn v3 x1 h) fun v5 =>
  if v5 = 0 then
    D_U_copiesAcross_68 k7 r0 x1 x2 x3 x4 h
  else
    xb1 (xgR h 1 2 r0) fun q9 =>
    xb1 (xaI h q9 x4) fun v10 =>
    D_U_copiesAcross_68 k7 r0 x1 x2 (x3 ||| ((1 : Int32) <<< (v10 &&& 31))) x4 h
def D_U_copiesAcross_7 : Nat → Nat → Int32 → Int32 → Int32 → Int32 → XH → Option (Int32)
  | 0, _, _, _, _, _, _ => none
  | fu + 1, r0, x1, x2, x3, x4, h =>
  xb1 (xgI h 1 0 r0) fun v2 =>
  if v2 < x4 then
    D_U_copiesAcross_80 5000 x2 x3 (0 : Int32) (1 : Int32) h
  else
    xb1 (xgR h 1 4 r0) fun q5 =>
    xb1 (xaI h q5 x4) fun v6 =>
    xb1 (X_T_isIn v6 x1 h) fun v8 =>
    if v8 = 0 then
      D_U_copiesAcross_42 (D_U_copiesAcross_7 fu) r0 x1 x2 x3 x4 h
    else
      xb1 (xgR h 1 2 r0) fun q12 =>
      xb1 (xaI h q12 x4) fun v13 =>
      D_U_copiesAcross_42 (D_U_copiesAcross_7 fu) r0 x1 (x2 ||| ((1 : Int32) <<< (v13 &&& 31))) x3 x4 h
def D_U_copiesAcross_0 (r0 : Nat) (x1 : Int32) (h : XH) : Option (Int32) :=
  D_U_copiesAcross_7 5000 r0 x1 (0 : Int32) (0 : Int32) (1 : Int32) h
def X_U_copiesAcross (r0 : Nat) (x1 : Int32) (h : XH) : Option (Int32) := D_U_copiesAcross_0 r0 x1 h
def D_T_cross_0 (r0 : Nat) (x1 : Int32) (h : XH) : Option (Int32) :=
  xb1 (X_T_isDatum x1 h) fun v1 =>
  if v1 = 0 then
    some (-2 : Int32)
  else
    xb1 (xgQ h 0 5 r0) fun o5 =>
    xq o5 (
      some (-3 : Int32))
    fun q6 =>
      xb1 (xgR h 0 0 r0) fun q8 =>
      xchk (xis h 1 q8) <|
      xb1 (X_U_copiesAcross q8 x1 h) fun v9 =>
      some v9
def X_T_cross (r0 : Nat) (x1 : Int32) (h : XH) : Option (Int32) := D_T_cross_0 r0 x1 h
def D_P_stepsOf_10 : Nat → Nat → Int32 → Nat → Int32 → Int32 → XH → Option (Int32)
  | 0, _, _, _, _, _, _ => none
  | fu + 1, r0, x1, r2, x3, x4, h =>
  xb1 (xgR h 3 5 r0) fun q2 =>
  xb1 (xaI h q2 (x1 + (1 : Int32))) fun v3 =>
  if v3 ≤ x4 then
    some x3
  else
    xb1 (xgR h 1 3 r2) fun q7 =>
    xb1 (xgR h 3 4 r0) fun q9 =>
    xb1 (xaI h q9 x4) fun v10 =>
    xb1 (xaI h q7 v10) fun v12 =>
    D_P_stepsOf_10 fu r0 x1 r2 (x3 + v12) (x4 + 1) h
def D_P_stepsOf_0 (r0 : Nat) (x1 : Int32) (r2 : Nat) (h : XH) : Option (Int32) :=
  xb1 (xgR h 3 5 r0) fun q2 =>
  xb1 (xaI h q2 x1) fun v3 =>
  D_P_stepsOf_10 5000 r0 x1 r2 (0 : Int32) v3 h
def X_P_stepsOf (r0 : Nat) (x1 : Int32) (r2 : Nat) (h : XH) : Option (Int32) := D_P_stepsOf_0 r0 x1 r2 h
def D_T_budget_55 (s0 : Int32) (h : XH) : Option (Int32) :=
  some s0
def D_T_budget_0 (r0 : Nat) (x1 : Int32) (x2 : Int64) (h : XH) : Option (Int32) :=
  xb1 (xgQ h 0 5 r0) fun o2 =>
  xq o2 (
    some (-3 : Int32))
  fun q3 =>
    xb1 (xgQ h 0 5 r0) fun o5 =>
    xq o5 (
      none)
    fun q6 =>
      xchk (xis h 3 q6) <|
      xb1 (X_P_hasTask q6 x1 h) fun v7 =>
      if v7 = 0 then
        some (-1 : Int32)
      else
        if 0 ≤ (lg_cmp x2 (0 : Int64)) then
          xb1 (xgQ h 0 5 r0) fun o13 =>
          xq o13 (
            xb1 (xgR h 0 0 r0) fun q16 =>
            none)
          fun q14 =>
            xb1 (xgR h 0 0 r0) fun q18 =>
            xchk (xis h 3 q14) <|
            xb1 (X_P_stepsOf q14 x1 q18 h) fun v19 =>
            if 0 < (lg_cmp (v19.toInt64) x2) then
              D_T_budget_55 (0 : Int32) h
            else
              D_T_budget_55 (1 : Int32) h
        else
          some (-2 : Int32)
def X_T_budget (r0 : Nat) (x1 : Int32) (x2 : Int64) (h : XH) : Option (Int32) := D_T_budget_0 r0 x1 x2 h
def D_P_standsIn_38 : Nat → Nat → Nat → Int32 → Int32 → Int32 → XH → Option (Int32)
  | 0, _, _, _, _, _, _ => none
  | fu + 1, r0, r1, x2, x3, x4, h =>
  xchk (xis h 3 r0) <|
  xb1 (X_P_sizeOf r0 x2 h) fun v1 =>
  if v1 ≤ x4 then
    some (1 : Int32)
  else
    xchk (xis h 3 r1) <|
    xb1 (X_P_runnableAt r1 x3 x4 h) fun v5 =>
    xchk (xis h 3 r0) <|
    xb1 (X_P_runnableAt r0 x2 x4 h) fun v8 =>
    if v5 = v8 then
      D_P_standsIn_38 fu r0 r1 x2 x3 (x4 + 1) h
    else
      some (0 : Int32)
def D_P_standsIn_33 (h : XH) : Option (Int32) :=
  some (0 : Int32)
def D_P_standsIn_0 (r0 : Nat) (r1 : Nat) (x2 : Int32) (h : XH) : Option (Int32) :=
  xb1 (xgR h 3 1 r1) fun q2 =>
  xchk (xis h 3 r0) <|
  xb1 (X_P_runnableAt r0 x2 (0 : Int32) h) fun v3 =>
  xb1 (xaI h q2 v3) fun v6 =>
  xchk (xis h 3 r1) <|
  xb1 (X_P_hasTask r1 v6 h) fun v8 =>
  if v8 = 0 then
    D_P_standsIn_33 h
  else
    xchk (xis h 3 r1) <|
    xb1 (X_P_sizeOf r1 v6 h) fun v12 =>
    xchk (xis h 3 r0) <|
    xb1 (X_P_sizeOf r0 x2 h) fun v15 =>
    if v12 = v15 then
      D_P_standsIn_38 5000 r0 r1 x2 v6 (0 : Int32) h
    else
      D_P_standsIn_33 h
def X_P_standsIn (r0 : Nat) (r1 : Nat) (x2 : Int32) (h : XH) : Option (Int32) := D_P_standsIn_0 r0 r1 x2 h
def D_P_tasksNotIn_24 (k4 : Nat → Nat → Int32 → Int32 → XH → Option (Int32)) (r0 : Nat) (r1 : Nat) (x2 : Int32) (x3 : Int32) (h : XH) : Option (Int32) :=
  k4 r0 r1 x2 (x3 + 1) h
def D_P_tasksNotIn_4 : Nat → Nat → Nat → Int32 → Int32 → XH → Option (Int32)
  | 0, _, _, _, _, _ => none
  | fu + 1, r0, r1, x2, x3, h =>
  xb1 (xgI h 3 0 r0) fun v2 =>
  if v2 < x3 then
    some x2
  else
    xchk (xis h 3 r0) <|
    xb1 (X_P_standsIn r0 r1 x3 h) fun v4 =>
    if v4 = 0 then
      D_P_tasksNotIn_24 (D_P_tasksNotIn_4 fu) r0 r1 (x2 + 1) x3 h
    else
      D_P_tasksNotIn_24 (D_P_tasksNotIn_4 fu) r0 r1 x2 x3 h
def D_P_tasksNotIn_0 (r0 : Nat) (r1 : Nat) (h : XH) : Option (Int32) :=
  D_P_tasksNotIn_4 5000 r0 r1 (0 : Int32) (1 : Int32) h
def X_P_tasksNotIn (r0 : Nat) (r1 : Nat) (h : XH) : Option (Int32) := D_P_tasksNotIn_0 r0 r1 h
def D_T_differ_0 (r0 : Nat) (x1 : Int32) (h : XH) : Option (Int32) :=
  xb1 (xgQ h 0 5 r0) fun o2 =>
  xq o2 (
    some (-3 : Int32))
  fun q3 =>
    xb1 (xgI h 0 3 r0) fun v5 =>
    xb1 (X_T_isWithin x1 (1 : Int32) v5 h) fun v6 =>
    if v6 = 0 then
      some (-1 : Int32)
    else
      xb1 (xgR h 0 2 r0) fun q10 =>
      xb1 (xaR h "TaskBuild$Plan" q10 (x1 - (1 : Int32))) fun o11 =>
      xq o11 (
        some (-1 : Int32))
      fun q13 =>
        xb1 (xgQ h 0 5 r0) fun o15 =>
        xq o15 (
          none)
        fun q16 =>
          xchk (xis h 3 q16) <|
          xb1 (X_P_tasksNotIn q16 q13 h) fun v17 =>
          some v17
def X_T_differ (r0 : Nat) (x1 : Int32) (h : XH) : Option (Int32) := D_T_differ_0 r0 x1 h
