/-! ===== the law, as functions ===== -/
def f_L_law_L671 (L : Nat) (xs : Nat → Int32) (rec : Int32 → Int32 → Int32 → Int32 → Int32 → Int32 → Int32 → twS → Option (Int32 × twS)) (v2 : Int32) (v3 : Int32) (v4 : Int32) (v8 : Int32) (k0 : Int32) (st : twS) : Option (Int32 × twS) :=
  ((f_X7_gone st).bind fun y671001 => ((f_X7_alarm y671001.2).bind fun y671002 => rec v2 v3 v4 y671001.1 y671002.1 k0 (v8 + 1) y671002.2))
def f_L_law_L670 (L : Nat) (xs : Nat → Int32) (rec : Int32 → Int32 → Int32 → Int32 → Int32 → Int32 → Int32 → twS → Option (Int32 × twS)) (v2 : Int32) (v3 : Int32) (v4 : Int32) (v8 : Int32) (st : twS) : Option (Int32 × twS) :=
  f_L_law_L671 L xs rec v2 v3 v4 v8 0 st
def f_L_law_L666 (L : Nat) (xs : Nat → Int32) (rec : Int32 → Int32 → Int32 → Int32 → Int32 → Int32 → Int32 → twS → Option (Int32 × twS)) (v2 : Int32) (v3 : Int32) (v4 : Int32) (v8 : Int32) (st : twS) : Option (Int32 × twS) :=
  f_L_law_L671 L xs rec v2 v3 v4 v8 1 st
def f_L_law_L629 (L : Nat) (xs : Nat → Int32) (rec : Int32 → Int32 → Int32 → Int32 → Int32 → Int32 → Int32 → twS → Option (Int32 × twS)) (v2 : Int32) (v3 : Int32) (v4 : Int32) (v5 : Int32) (v6 : Int32) (v7 : Int32) (v8 : Int32) (st : twS) : Option (Int32 × twS) :=
  (if v7 = 0 then
    f_L_law_L670 L xs rec v2 v3 v4 v8 st
  else
    ((f_L_fits st v2 v3).bind fun y629002 => (if y629002.1 = 0 then
    f_L_law_L670 L xs rec v2 v3 v4 v8 y629002.2
  else
    ((f_X7_gone y629002.2).bind fun y629004 => (if y629004.1 < v5 then
    f_L_law_L670 L xs rec v2 v3 v4 v8 y629004.2
  else
    (if v6 < 0 then
    f_L_law_L666 L xs rec v2 v3 v4 v8 y629004.2
  else
    ((f_X7_alarm y629004.2).bind fun y629007 => (if y629007.1 = v6 then
    f_L_law_L666 L xs rec v2 v3 v4 v8 y629007.2
  else
    f_L_law_L670 L xs rec v2 v3 v4 v8 y629007.2))))))))
def f_L_law_L627 (L : Nat) (xs : Nat → Int32) (rec : Int32 → Int32 → Int32 → Int32 → Int32 → Int32 → Int32 → twS → Option (Int32 × twS)) (v2 : Int32) (v3 : Int32) (v4 : Int32) (v5 : Int32) (v6 : Int32) (v8 : Int32) (k0 : Int32) (st : twS) : Option (Int32 × twS) :=
  f_L_law_L629 L xs rec v2 v3 v4 v5 v6 k0 v8 st
def f_L_law_L626 (L : Nat) (xs : Nat → Int32) (rec : Int32 → Int32 → Int32 → Int32 → Int32 → Int32 → Int32 → twS → Option (Int32 × twS)) (v2 : Int32) (v3 : Int32) (v4 : Int32) (v5 : Int32) (v6 : Int32) (v8 : Int32) (st : twS) : Option (Int32 × twS) :=
  f_L_law_L627 L xs rec v2 v3 v4 v5 v6 v8 0 st
def f_L_law_L622 (L : Nat) (xs : Nat → Int32) (rec : Int32 → Int32 → Int32 → Int32 → Int32 → Int32 → Int32 → twS → Option (Int32 × twS)) (v2 : Int32) (v3 : Int32) (v4 : Int32) (v5 : Int32) (v6 : Int32) (v8 : Int32) (st : twS) : Option (Int32 × twS) :=
  f_L_law_L627 L xs rec v2 v3 v4 v5 v6 v8 1 st
def f_L_law_L566 (L : Nat) (xs : Nat → Int32) (rec : Int32 → Int32 → Int32 → Int32 → Int32 → Int32 → Int32 → twS → Option (Int32 × twS)) (v2 : Int32) (v3 : Int32) (v4 : Int32) (v5 : Int32) (v6 : Int32) (v8 : Int32) (v10 : Int32) (v12 : Int32) (k0 : Int32) (st : twS) : Option (Int32 × twS) :=
  ((f_L_step st k0).bind fun y566001 => (if y566001.1 = (v4 + k0) then
    (if 1 < k0 then
    f_L_law_L622 L xs rec v2 v3 (v4 + k0) v5 v6 v8 y566001.2
  else
    ((f_L_fan y566001.2 (v10 - v10 / 3 * 3)).bind fun y566004 => (if (v12 + 1) < y566004.1 then
    f_L_law_L626 L xs rec v2 v3 (v4 + k0) v5 v6 v8 y566004.2
  else
    ((f_L_fan y566004.2 (v10 - v10 / 3 * 3)).bind fun y566006 => (if y566006.1 < (v12 - 1) then
    f_L_law_L626 L xs rec v2 v3 (v4 + k0) v5 v6 v8 y566006.2
  else
    f_L_law_L622 L xs rec v2 v3 (v4 + k0) v5 v6 v8 y566006.2)))))
  else
    f_L_law_L626 L xs rec v2 v3 (v4 + k0) v5 v6 v8 y566001.2))
def f_L_law_L528 (L : Nat) (xs : Nat → Int32) (rec : Int32 → Int32 → Int32 → Int32 → Int32 → Int32 → Int32 → twS → Option (Int32 × twS)) (v2 : Int32) (v3 : Int32) (v4 : Int32) (v5 : Int32) (v6 : Int32) (v8 : Int32) (k0 : Int32) (st : twS) : Option (Int32 × twS) :=
  f_L_law_L629 L xs rec v2 v3 v4 v5 v6 k0 v8 st
def f_L_law_L491 (L : Nat) (xs : Nat → Int32) (rec : Int32 → Int32 → Int32 → Int32 → Int32 → Int32 → Int32 → twS → Option (Int32 × twS)) (v2 : Int32) (v4 : Int32) (v5 : Int32) (v6 : Int32) (v7 : Int32) (v8 : Int32) (k0 : Int32) (k1 : Int32) (st : twS) : Option (Int32 × twS) :=
  f_L_law_L629 L xs rec v2 (k1 + k0) v4 v5 v6 v7 v8 st
def f_L_law_L478 (L : Nat) (xs : Nat → Int32) (rec : Int32 → Int32 → Int32 → Int32 → Int32 → Int32 → Int32 → twS → Option (Int32 × twS)) (v2 : Int32) (v3 : Int32) (v4 : Int32) (v5 : Int32) (v6 : Int32) (v8 : Int32) (v12 : Int32) (k0 : Int32) (st : twS) : Option (Int32 × twS) :=
  (if v12 < 0 then
    f_L_law_L491 L xs rec v2 v4 v5 v6 k0 v8 0 v3 st
  else
    f_L_law_L491 L xs rec v2 v4 v5 v6 k0 v8 1 v3 st)
def f_L_law_L473 (L : Nat) (xs : Nat → Int32) (rec : Int32 → Int32 → Int32 → Int32 → Int32 → Int32 → Int32 → twS → Option (Int32 × twS)) (v2 : Int32) (v3 : Int32) (v4 : Int32) (v5 : Int32) (v6 : Int32) (v8 : Int32) (v12 : Int32) (st : twS) : Option (Int32 × twS) :=
  f_L_law_L478 L xs rec v2 v3 v4 v5 v6 v8 v12 1 st
def f_L_law_L455 (L : Nat) (xs : Nat → Int32) (rec : Int32 → Int32 → Int32 → Int32 → Int32 → Int32 → Int32 → twS → Option (Int32 × twS)) (v2 : Int32) (v3 : Int32) (v4 : Int32) (v5 : Int32) (v6 : Int32) (v8 : Int32) (k0 : Int32) (k1 : Int32) (k2 : Int32) (st : twS) : Option (Int32 × twS) :=
  ((g_L_act st k2 k1 k0).bind fun y455001 => (if y455001.1 = v3 then
    f_L_law_L473 L xs rec v2 v3 v4 v5 v6 v8 y455001.1 y455001.2
  else
    (if y455001.1 = (-103) then
    f_L_law_L473 L xs rec v2 v3 v4 v5 v6 v8 y455001.1 y455001.2
  else
    f_L_law_L478 L xs rec v2 v3 v4 v5 v6 v8 y455001.1 0 y455001.2)))
def f_L_law_L414 (L : Nat) (xs : Nat → Int32) (rec : Int32 → Int32 → Int32 → Int32 → Int32 → Int32 → Int32 → twS → Option (Int32 × twS)) (v2 : Int32) (v3 : Int32) (v4 : Int32) (v5 : Int32) (v6 : Int32) (v8 : Int32) (k0 : Int32) (st : twS) : Option (Int32 × twS) :=
  f_L_law_L629 L xs rec v2 v3 v4 v5 v6 k0 v8 st
def f_L_law_L413 (L : Nat) (xs : Nat → Int32) (rec : Int32 → Int32 → Int32 → Int32 → Int32 → Int32 → Int32 → twS → Option (Int32 × twS)) (v2 : Int32) (v3 : Int32) (v4 : Int32) (v5 : Int32) (v6 : Int32) (v8 : Int32) (st : twS) : Option (Int32 × twS) :=
  f_L_law_L414 L xs rec v2 v3 v4 v5 v6 v8 0 st
def f_L_law_L403 (L : Nat) (xs : Nat → Int32) (rec : Int32 → Int32 → Int32 → Int32 → Int32 → Int32 → Int32 → twS → Option (Int32 × twS)) (v2 : Int32) (v3 : Int32) (v4 : Int32) (v5 : Int32) (v6 : Int32) (v8 : Int32) (k0 : Int32) (k1 : Int32) (k2 : Int32) (st : twS) : Option (Int32 × twS) :=
  ((f_L_failDetector st k2 k1 k0).bind fun y403001 => (if y403001.1 = 0 then
    f_L_law_L414 L xs rec v2 v3 v4 v5 v6 v8 1 y403001.2
  else
    f_L_law_L413 L xs rec v2 v3 v4 v5 v6 v8 y403001.2))
def f_L_law_L372 (L : Nat) (xs : Nat → Int32) (rec : Int32 → Int32 → Int32 → Int32 → Int32 → Int32 → Int32 → twS → Option (Int32 × twS)) (v2 : Int32) (v3 : Int32) (v4 : Int32) (v5 : Int32) (v6 : Int32) (v8 : Int32) (v10 : Int32) (k0 : Int32) (k1 : Int32) (st : twS) : Option (Int32 × twS) :=
  (if k1 = k0 then
    (if ((v10 / 72) - (v10 / 72) / 2 * 2) = 0 then
    f_L_law_L403 L xs rec v2 v3 v4 v5 v6 v8 1 ((v10 / 24) - (v10 / 24) / 3 * 3) (v10 - v10 / 12 * 12) st
  else
    f_L_law_L403 L xs rec v2 v3 v4 v5 v6 v8 0 ((v10 / 24) - (v10 / 24) / 3 * 3) (v10 - v10 / 12 * 12) st)
  else
    f_L_law_L413 L xs rec v2 v3 v4 v5 v6 v8 st)
def f_L_law_L337 (L : Nat) (xs : Nat → Int32) (rec : Int32 → Int32 → Int32 → Int32 → Int32 → Int32 → Int32 → twS → Option (Int32 × twS)) (v2 : Int32) (v3 : Int32) (v4 : Int32) (v5 : Int32) (v6 : Int32) (v8 : Int32) (v10 : Int32) (k0 : Int32) (k1 : Int32) (st : twS) : Option (Int32 × twS) :=
  ((g_L_failDoor st k1 k0).bind fun y337001 => ((f_L_segment y337001.2 (v10 - v10 / 12 * 12) 4).bind fun y337002 => (if 0 ≤ y337002.1 then
    ((f_L_segment y337002.2 (v10 - v10 / 12 * 12) 4).bind fun y337004 => f_L_law_L372 L xs rec v2 v3 v4 v5 v6 v8 v10 y337004.1 y337001.1 y337004.2)
  else
    f_L_law_L372 L xs rec v2 v3 v4 v5 v6 v8 v10 (-101) y337001.1 y337002.2)))
def f_L_law_L304 (L : Nat) (xs : Nat → Int32) (rec : Int32 → Int32 → Int32 → Int32 → Int32 → Int32 → Int32 → twS → Option (Int32 × twS)) (v2 : Int32) (v3 : Int32) (v4 : Int32) (v5 : Int32) (v6 : Int32) (v8 : Int32) (k0 : Int32) (st : twS) : Option (Int32 × twS) :=
  f_L_law_L629 L xs rec v2 v3 v4 v5 v6 k0 v8 st
def f_L_law_L303 (L : Nat) (xs : Nat → Int32) (rec : Int32 → Int32 → Int32 → Int32 → Int32 → Int32 → Int32 → twS → Option (Int32 × twS)) (v2 : Int32) (v3 : Int32) (v4 : Int32) (v5 : Int32) (v6 : Int32) (v8 : Int32) (st : twS) : Option (Int32 × twS) :=
  f_L_law_L304 L xs rec v2 v3 v4 v5 v6 v8 0 st
def f_L_law_L292 (L : Nat) (xs : Nat → Int32) (rec : Int32 → Int32 → Int32 → Int32 → Int32 → Int32 → Int32 → twS → Option (Int32 × twS)) (v2 : Int32) (v3 : Int32) (v4 : Int32) (v5 : Int32) (v6 : Int32) (v8 : Int32) (k0 : Int32) (k1 : Int32) (st : twS) : Option (Int32 × twS) :=
  ((f_L_failFan st k1 k0).bind fun y292001 => (if y292001.1 < (-1) then
    f_L_law_L303 L xs rec v2 v3 v4 v5 v6 v8 y292001.2
  else
    f_L_law_L304 L xs rec v2 v3 v4 v5 v6 v8 1 y292001.2))
def f_L_law_L266 (L : Nat) (xs : Nat → Int32) (rec : Int32 → Int32 → Int32 → Int32 → Int32 → Int32 → Int32 → twS → Option (Int32 × twS)) (v2 : Int32) (v3 : Int32) (v4 : Int32) (v5 : Int32) (v6 : Int32) (v8 : Int32) (v10 : Int32) (k0 : Int32) (k1 : Int32) (st : twS) : Option (Int32 × twS) :=
  ((f_L_feed st k1 k0).bind fun y266001 => (if y266001.1 < 0 then
    f_L_law_L303 L xs rec v2 v3 v4 v5 v6 v8 y266001.2
  else
    (if ((v10 / 6) - (v10 / 6) / 3 * 3) = 0 then
    f_L_law_L292 L xs rec v2 v3 v4 v5 v6 v8 1 (v10 - v10 / 3 * 3) y266001.2
  else
    f_L_law_L292 L xs rec v2 v3 v4 v5 v6 v8 0 (v10 - v10 / 3 * 3) y266001.2)))
def f_L_law_L236 (L : Nat) (xs : Nat → Int32) (rec : Int32 → Int32 → Int32 → Int32 → Int32 → Int32 → Int32 → twS → Option (Int32 × twS)) (v2 : Int32) (v3 : Int32) (v4 : Int32) (v5 : Int32) (v6 : Int32) (v8 : Int32) (k0 : Int32) (st : twS) : Option (Int32 × twS) :=
  f_L_law_L629 L xs rec v2 v3 v4 v5 v6 k0 v8 st
def f_L_law_L231 (L : Nat) (xs : Nat → Int32) (rec : Int32 → Int32 → Int32 → Int32 → Int32 → Int32 → Int32 → twS → Option (Int32 × twS)) (v2 : Int32) (v3 : Int32) (v4 : Int32) (v5 : Int32) (v6 : Int32) (v8 : Int32) (st : twS) : Option (Int32 × twS) :=
  f_L_law_L236 L xs rec v2 v3 v4 v5 v6 v8 1 st
def f_L_law_L186 (L : Nat) (xs : Nat → Int32) (rec : Int32 → Int32 → Int32 → Int32 → Int32 → Int32 → Int32 → twS → Option (Int32 × twS)) (v2 : Int32) (v3 : Int32) (v4 : Int32) (v5 : Int32) (v6 : Int32) (v8 : Int32) (k0 : Int32) (st : twS) : Option (Int32 × twS) :=
  f_L_law_L629 L xs rec v2 v3 v4 v5 v6 k0 v8 st
def f_L_law_L154 (L : Nat) (xs : Nat → Int32) (rec : Int32 → Int32 → Int32 → Int32 → Int32 → Int32 → Int32 → twS → Option (Int32 × twS)) (v3 : Int32) (v4 : Int32) (v5 : Int32) (v6 : Int32) (v7 : Int32) (v8 : Int32) (k0 : Int32) (st : twS) : Option (Int32 × twS) :=
  f_L_law_L629 L xs rec k0 v3 v4 v5 v6 v7 v8 st
def f_L_law_L141 (L : Nat) (xs : Nat → Int32) (rec : Int32 → Int32 → Int32 → Int32 → Int32 → Int32 → Int32 → twS → Option (Int32 × twS)) (v2 : Int32) (v3 : Int32) (v4 : Int32) (v5 : Int32) (v6 : Int32) (v8 : Int32) (v13 : Int32) (k0 : Int32) (st : twS) : Option (Int32 × twS) :=
  (if v13 ≤ 0 then
    f_L_law_L154 L xs rec v3 v4 v5 v6 k0 v8 v2 st
  else
    f_L_law_L154 L xs rec v3 v4 v5 v6 k0 v8 v13 st)
def f_L_law_L136 (L : Nat) (xs : Nat → Int32) (rec : Int32 → Int32 → Int32 → Int32 → Int32 → Int32 → Int32 → twS → Option (Int32 × twS)) (v2 : Int32) (v3 : Int32) (v4 : Int32) (v5 : Int32) (v6 : Int32) (v8 : Int32) (v13 : Int32) (st : twS) : Option (Int32 × twS) :=
  f_L_law_L141 L xs rec v2 v3 v4 v5 v6 v8 v13 1 st
def f_L_law_L55b (L : Nat) (xs : Nat → Int32) (rec : Int32 → Int32 → Int32 → Int32 → Int32 → Int32 → Int32 → twS → Option (Int32 × twS)) (v2 : Int32) (v3 : Int32) (v4 : Int32) (v5 : Int32) (v6 : Int32) (v7 : Int32) (v8 : Int32) (st : twS) : Option (Int32 × twS) :=
  (if 34 ≤ v8 then
    some (v7, st)
  else
    (if v7 = 0 then
    some (v7, st)
  else
    ((f_L_drawn L xs v8).bind fun y55003 => (if 2 ≤ (y55003 - y55003 / 16 * 16) then
    (if (y55003 - y55003 / 16 * 16) = 2 then
    ((f_L_wind st (((y55003 / 16) - (y55003 / 16) / 81 * 81) - 40)).bind fun y55021 => (if y55021.1 < (-40) then
    f_L_law_L186 L xs rec v2 v3 v4 v5 v6 v8 0 y55021.2
  else
    f_L_law_L186 L xs rec v2 v3 v4 v5 v6 v8 1 y55021.2))
  else
    (if 5 ≤ (y55003 - y55003 / 16 * 16) then
    (if (y55003 - y55003 / 16 * 16) = 5 then
    (if (((y55003 / 16) / 2) - ((y55003 / 16) / 2) / 3 * 3) ≤ 0 then
    f_L_law_L266 L xs rec v2 v3 v4 v5 v6 v8 (y55003 / 16) 0 ((y55003 / 16) - (y55003 / 16) / 2 * 2) st
  else
    f_L_law_L266 L xs rec v2 v3 v4 v5 v6 v8 (y55003 / 16) 1 ((y55003 / 16) - (y55003 / 16) / 2 * 2) st)
  else
    (if (y55003 - y55003 / 16 * 16) = 6 then
    (if (((y55003 / 16) / 12) - ((y55003 / 16) / 12) / 2 * 2) = 0 then
    f_L_law_L337 L xs rec v2 v3 v4 v5 v6 v8 (y55003 / 16) 1 ((y55003 / 16) - (y55003 / 16) / 12 * 12) st
  else
    f_L_law_L337 L xs rec v2 v3 v4 v5 v6 v8 (y55003 / 16) 0 ((y55003 / 16) - (y55003 / 16) / 12 * 12) st)
  else
    (if 9 ≤ (y55003 - y55003 / 16 * 16) then
    (if (y55003 - y55003 / 16 * 16) = 9 then
    ((f_L_command st ((y55003 / 16) - (y55003 / 16) / 3 * 3) ((((y55003 / 16) / 3) - ((y55003 / 16) / 3) / 3 * 3) - 1)).bind fun y55013 => (if y55013.1 < (-1) then
    f_L_law_L528 L xs rec v2 v3 v4 v5 v6 v8 0 y55013.2
  else
    f_L_law_L528 L xs rec v2 v3 v4 v5 v6 v8 1 y55013.2))
  else
    ((f_L_fan st ((y55003 / 16) - (y55003 / 16) / 3 * 3)).bind fun y55011 => (if (((y55003 / 16) / 3) - ((y55003 / 16) / 3) / 3 * 3) = 0 then
    f_L_law_L566 L xs rec v2 v3 v4 v5 v6 v8 (y55003 / 16) y55011.1 (1 + (((y55003 / 16) / 9) - ((y55003 / 16) / 9) / 12 * 12)) y55011.2
  else
    f_L_law_L566 L xs rec v2 v3 v4 v5 v6 v8 (y55003 / 16) y55011.1 1 y55011.2)))
  else
    (if (((y55003 / 16) / 48) - ((y55003 / 16) / 48) / 3 * 3) = 0 then
    f_L_law_L455 L xs rec v2 v3 v4 v5 v6 v8 1 (((y55003 / 16) / 8) - ((y55003 / 16) / 8) / 6 * 6) ((y55003 / 16) - (y55003 / 16) / 8 * 8) st
  else
    f_L_law_L455 L xs rec v2 v3 v4 v5 v6 v8 0 (((y55003 / 16) / 8) - ((y55003 / 16) / 8) / 6 * 6) ((y55003 / 16) - (y55003 / 16) / 8 * 8) st))))
  else
    ((g_L_fire st ((y55003 / 16) - (y55003 / 16) / 12 * 12) (1 + (((y55003 / 16) / 12) - ((y55003 / 16) / 12) / 200 * 200))).bind fun y55018 => (if y55018.1 = 0 then
    f_L_law_L231 L xs rec v2 v3 v4 v5 v6 v8 y55018.2
  else
    (if y55018.1 = (-103) then
    f_L_law_L231 L xs rec v2 v3 v4 v5 v6 v8 y55018.2
  else
    f_L_law_L236 L xs rec v2 v3 v4 v5 v6 v8 0 y55018.2)))))
  else
    ((g_L_people st ((y55003 / 16) - (y55003 / 16) / 12 * 12) (1 + (((y55003 / 16) / 12) - ((y55003 / 16) / 12) / 6 * 6))).bind fun y55023 => (if y55023.1 = (-103) then
    f_L_law_L136 L xs rec v2 v3 v4 v5 v6 v8 y55023.1 y55023.2
  else
    (if y55023.1 = (v2 + (1 + (((y55003 / 16) / 12) - ((y55003 / 16) / 12) / 6 * 6))) then
    f_L_law_L136 L xs rec v2 v3 v4 v5 v6 v8 y55023.1 y55023.2
  else
    f_L_law_L141 L xs rec v2 v3 v4 v5 v6 v8 y55023.1 0 y55023.2)))))))
def f_L_law_L55 (L : Nat) (xs : Nat → Int32) : Nat → Int32 → Int32 → Int32 → Int32 → Int32 → Int32 → Int32 → twS → Option (Int32 × twS)
  | 0 => fun _ _ _ _ _ _ _ _ => none
  | n + 1 => fun v2 v3 v4 v5 v6 v7 v8 st => f_L_law_L55b L xs (f_L_law_L55 L xs n) v2 v3 v4 v5 v6 v7 v8 st
def f_L_law8 (L : Nat) (xs : Nat → Int32) (st : twS) : Option (Int32 × twS) :=
  ((f_L_drawn L xs 0).bind fun y1 => ((f_L_drawn L xs 1).bind fun y2 => ((f_L_build st (y1 - y1 / 4096 * 4096) (y2 - y2 / 12 * 12)).bind fun y3 => (if y3.1 = 0 then
    f_L_law_L55 L xs 40 0 0 0 0 (-1) 1 2 y3.2
  else
    f_L_law_L55 L xs 40 0 0 0 0 (-1) 0 2 y3.2))))
