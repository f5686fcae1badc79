def D_law_515 (L : Nat) (xs : Nat → Int32) (k18 : Nat → Nat → Int32 → Nat → XH → Option Unit) (r1 : Nat) (r2 : Nat) (x3 : Int32) (n : Nat) (h : XH) : Option Unit :=
  k18 r1 r2 (x3 + 4) n h
def D_law_194 (L : Nat) (xs : Nat → Int32) (k18 : Nat → Nat → Int32 → Nat → XH → Option Unit) (r1 : Nat) (r2 : Nat) (x3 : Int32) (s0 : Int32) (s1 : Int32) (s2 : Int32) (s3 : Nat) (s4 : Int32) (n : Nat) (h : XH) : Option Unit :=
  xchk (xis h 4 s3) <|
  xb2 (X_M_needs s3 s2 s1 s0 h) fun v1 h2 =>
  if s4 = v1 then
    D_law_515 L xs k18 r1 r2 x3 n h2
  else
    none
def D_law_167 (L : Nat) (xs : Nat → Int32) (k18 : Nat → Nat → Int32 → Nat → XH → Option Unit) (r1 : Nat) (r2 : Nat) (x3 : Int32) (s0 : Int32) (s1 : Int32) (s2 : Int32) (s3 : Nat) (n : Nat) (h : XH) : Option Unit :=
  xchk (xis h 0 s3) <|
  xb2 (X_T_needs s3 s2 s1 s0 h) fun v1 h2 =>
  xb1 (xsc L xs (x3 + (1 : Int32))) fun v5 =>
  xb1 (xsc L xs (x3 + (2 : Int32))) fun v7 =>
  xb1 (xsc L xs (x3 + (3 : Int32))) fun v9 =>
  if v9 = 0 then
    D_law_194 L xs k18 r1 r2 x3 (0 : Int32) v7 v5 r2 v1 n h2
  else
    D_law_194 L xs k18 r1 r2 x3 (1 : Int32) v7 v5 r2 v1 n h2
def D_law_18 (L : Nat) (xs : Nat → Int32) : Nat → Nat → Nat → Int32 → Nat → XH → Option Unit
  | 0, _, _, _, _, _ => none
  | fu + 1, r1, r2, x3, n, h =>
  if ((Int32.ofNat L) - (4 : Int32)) < x3 then
    some ()
  else
    xb1 (xsc L xs x3) fun v2 =>
    xb1 (some (v2 &&& (15 : Int32))) fun x4 =>
    if x4 = (0 : Int32) then
      xb1 (xsc L xs (x3 + (1 : Int32))) fun v6 =>
      xb1 (xsc L xs (x3 + (2 : Int32))) fun v8 =>
      xb1 (xsc L xs (x3 + (3 : Int32))) fun v10 =>
      xchk (xis h 0 r1) <|
      xb2 (X_T_runnable r1 v6 v8 v10 h) fun v12 h13 =>
      xb1 (xsc L xs (x3 + (1 : Int32))) fun v16 =>
      xb1 (xsc L xs (x3 + (2 : Int32))) fun v18 =>
      xb1 (xsc L xs (x3 + (3 : Int32))) fun v20 =>
      xchk (xis h13 4 r2) <|
      xb2 (X_M_runnable r2 v16 v18 v20 h13) fun v22 h23 =>
      if v12 = v22 then
        D_law_515 L xs (D_law_18 L xs fu) r1 r2 x3 n h23
      else
        none
    else
    if x4 = (1 : Int32) then
      xb1 (xsc L xs (x3 + (1 : Int32))) fun v28 =>
      xb1 (xsc L xs (x3 + (2 : Int32))) fun v30 =>
      xb1 (xsc L xs (x3 + (3 : Int32))) fun v32 =>
      if v32 = 0 then
        D_law_167 L xs (D_law_18 L xs fu) r1 r2 x3 (0 : Int32) v30 v28 r1 n h
      else
        D_law_167 L xs (D_law_18 L xs fu) r1 r2 x3 (1 : Int32) v30 v28 r1 n h
    else
    if x4 = (2 : Int32) then
      xb1 (xsc L xs (x3 + (1 : Int32))) fun v36 =>
      xb1 (xsc L xs (x3 + (2 : Int32))) fun v38 =>
      xchk (xis h 0 r1) <|
      xb2 (X_T_area r1 v36 v38 h) fun v40 h41 =>
      xb1 (xsc L xs (x3 + (1 : Int32))) fun v44 =>
      xb1 (xsc L xs (x3 + (2 : Int32))) fun v46 =>
      xchk (xis h41 4 r2) <|
      xb2 (X_M_area r2 v44 v46 h41) fun v48 h49 =>
      if v40 = v48 then
        D_law_515 L xs (D_law_18 L xs fu) r1 r2 x3 n h49
      else
        none
    else
    if x4 = (3 : Int32) then
      xchk (xis h 0 r1) <|
      xb3 (X_T_build r1 n h) fun v54 n55 h56 =>
      xchk (xis h56 4 r2) <|
      xb2 (X_M_build r2 h56) fun v59 h60 =>
      if v54 = v59 then
        D_law_515 L xs (D_law_18 L xs fu) r1 r2 x3 n55 h60
      else
        none
    else
    if x4 = (4 : Int32) then
      xb1 (xsc L xs (x3 + (1 : Int32))) fun v65 =>
      xchk (xis h 0 r1) <|
      xb1 (X_T_task r1 v65 h) fun v67 =>
      xb1 (xsc L xs (x3 + (1 : Int32))) fun v70 =>
      xchk (xis h 4 r2) <|
      xb2 (X_M_task r2 v70 h) fun v72 h73 =>
      if v67 = v72 then
        D_law_515 L xs (D_law_18 L xs fu) r1 r2 x3 n h73
      else
        none
    else
    if x4 = (5 : Int32) then
      xb1 (xsc L xs (x3 + (1 : Int32))) fun v78 =>
      xb1 (xsc L xs (x3 + (2 : Int32))) fun v80 =>
      xchk (xis h 0 r1) <|
      xb1 (X_T_order r1 v78 v80 h) fun v82 =>
      xb1 (xsc L xs (x3 + (1 : Int32))) fun v85 =>
      xb1 (xsc L xs (x3 + (2 : Int32))) fun v87 =>
      xchk (xis h 4 r2) <|
      xb2 (X_M_order r2 v85 v87 h) fun v89 h90 =>
      if v82 = v89 then
        D_law_515 L xs (D_law_18 L xs fu) r1 r2 x3 n h90
      else
        none
    else
    if x4 = (6 : Int32) then
      xb1 (xsc L xs (x3 + (1 : Int32))) fun v95 =>
      xchk (xis h 0 r1) <|
      xb1 (X_T_rank r1 v95 h) fun v97 =>
      xb1 (xsc L xs (x3 + (1 : Int32))) fun v100 =>
      xchk (xis h 4 r2) <|
      xb2 (X_M_rank r2 v100 h) fun v102 h103 =>
      if v97 = v102 then
        D_law_515 L xs (D_law_18 L xs fu) r1 r2 x3 n h103
      else
        none
    else
    if x4 = (7 : Int32) then
      xb1 (xsc L xs (x3 + (1 : Int32))) fun v108 =>
      xchk (xis h 0 r1) <|
      xb1 (X_T_buffer r1 v108 h) fun v110 =>
      xb1 (xsc L xs (x3 + (1 : Int32))) fun v113 =>
      xchk (xis h 4 r2) <|
      xb2 (X_M_buffer r2 v113 h) fun v115 h116 =>
      if v110 = v115 then
        D_law_515 L xs (D_law_18 L xs fu) r1 r2 x3 n h116
      else
        none
    else
    if x4 = (8 : Int32) then
      xb1 (xsc L xs (x3 + (1 : Int32))) fun v121 =>
      xb1 (xsc L xs (x3 + (2 : Int32))) fun v123 =>
      xchk (xis h 0 r1) <|
      xb1 (X_T_table r1 v121 v123 h) fun v125 =>
      xb1 (xsc L xs (x3 + (1 : Int32))) fun v128 =>
      xb1 (xsc L xs (x3 + (2 : Int32))) fun v130 =>
      xchk (xis h 4 r2) <|
      xb2 (X_M_table r2 v128 v130 h) fun v132 h133 =>
      if v125 = v132 then
        D_law_515 L xs (D_law_18 L xs fu) r1 r2 x3 n h133
      else
        none
    else
    if x4 = (9 : Int32) then
      xb1 (xsc L xs (x3 + (1 : Int32))) fun v138 =>
      xchk (xis h 0 r1) <|
      xb1 (X_T_ring r1 v138 h) fun v140 =>
      xb1 (xsc L xs (x3 + (1 : Int32))) fun v143 =>
      xchk (xis h 4 r2) <|
      xb2 (X_M_ring r2 v143 h) fun v145 h146 =>
      if v140 = v145 then
        D_law_515 L xs (D_law_18 L xs fu) r1 r2 x3 n h146
      else
        none
    else
    if x4 = (10 : Int32) then
      xb1 (xsc L xs (x3 + (1 : Int32))) fun v151 =>
      xchk (xis h 0 r1) <|
      xb1 (X_T_cross r1 v151 h) fun v153 =>
      xb1 (xsc L xs (x3 + (1 : Int32))) fun v156 =>
      xchk (xis h 4 r2) <|
      xb2 (X_M_cross r2 v156 h) fun v158 h159 =>
      if v153 = v158 then
        D_law_515 L xs (D_law_18 L xs fu) r1 r2 x3 n h159
      else
        none
    else
    if x4 = (11 : Int32) then
      xb1 (xsc L xs (x3 + (1 : Int32))) fun v164 =>
      xb1 (xsc L xs (x3 + (2 : Int32))) fun v166 =>
      xb1 (xsc L xs (x3 + (3 : Int32))) fun v168 =>
      xchk (xis h 0 r1) <|
      xb1 (X_T_budget r1 v164 (((v166.toInt64) <<< ((32 : Int32).toInt64 &&& 63)) ||| ((v168.toInt64) &&& (4294967295 : Int64))) h) fun v170 =>
      xb1 (xsc L xs (x3 + (1 : Int32))) fun v173 =>
      xb1 (xsc L xs (x3 + (2 : Int32))) fun v175 =>
      xb1 (xsc L xs (x3 + (3 : Int32))) fun v177 =>
      xchk (xis h 4 r2) <|
      xb2 (X_M_budget r2 v173 (((v175.toInt64) <<< ((32 : Int32).toInt64 &&& 63)) ||| ((v177.toInt64) &&& (4294967295 : Int64))) h) fun v179 h180 =>
      if v170 = v179 then
        D_law_515 L xs (D_law_18 L xs fu) r1 r2 x3 n h180
      else
        none
    else
    if x4 = (12 : Int32) then
      xb1 (xsc L xs (x3 + (1 : Int32))) fun v185 =>
      xchk (xis h 0 r1) <|
      xb1 (X_T_differ r1 v185 h) fun v187 =>
      xb1 (xsc L xs (x3 + (1 : Int32))) fun v190 =>
      xchk (xis h 4 r2) <|
      xb2 (X_M_differ r2 v190 h) fun v192 h193 =>
      if v187 = v192 then
        D_law_515 L xs (D_law_18 L xs fu) r1 r2 x3 n h193
      else
        none
    else
      D_law_515 L xs (D_law_18 L xs fu) r1 r2 x3 n h
def D_law_0 (L : Nat) (xs : Nat → Int32)   (n : Nat) (h : XH) : Option Unit :=
  xb1 (some (va_up h (n + 1) (.inr (0, [.null, .null, .null, .int 0, .null, .null])))) fun h1 =>
  xb2 (X_T_init (n + 1) (n + 1) h1) fun n3 h4 =>
  xb1 (some (va_up h4 (n3 + 1) (.inr (4, [.int 0, .int 0, .null, .null, .null, .null, .null, .null, .int 0, .null, .null, .int 0, .int 0, .null, .null, .null, .null, .null, .null])))) fun h6 =>
  xb2 (X_M_init (n3 + 1) (n3 + 1) h6) fun n8 h9 =>
  D_law_18 L xs 600 (n + 1) (n3 + 1) (0 : Int32) n8 h9
