/-! ===== the document's other reading, as functions (pure: nothing of it runs here) ===== -/
def f_X8_thrown (st : twS) : Option (Int32 × twS) :=
  some ((st.1 36), st)
def f_X8_goes_L26 (k0 : Int32) (st : twS) : Option (Int32 × twS) :=
  (if ((twI st 36 k0).1 36) = 0 then
    some (1, (twI st 36 k0))
  else
    some (0, (twI st 36 k0)))
def f_X8_goes (st : twS) (v1 : Int32) (v2 : Int32) (v3 : Int32) : Option (Int32 × twS) :=
  (if v1 = 0 then
    f_X8_goes_L26 1 st
  else
    (if v2 = 0 then
    f_X8_goes_L26 2 st
  else
    (if v3 = 0 then
    f_X8_goes_L26 3 st
  else
    f_X8_goes_L26 0 st)))
def f_X8_isBetween (st : twS) (v0 : Int32) (v1 : Int32) (v2 : Int32) : Option (Int32 × twS) :=
  (if v0 < v1 then
    some (0, st)
  else
    (if v2 < v0 then
    some (0, st)
  else
    some (1, st)))
def f_X8_isSegment (st : twS) (v0 : Int32) : Option (Int32 × twS) :=
  ((f_X8_isBetween st v0 0 11).bind fun y1 => (if twz y1.1 = true then some (y1.1, y1.2) else none))
def f_X8_isFan (st : twS) (v0 : Int32) : Option (Int32 × twS) :=
  ((f_X8_isBetween st v0 0 2).bind fun y1 => (if twz y1.1 = true then some (y1.1, y1.2) else none))
def f_X8_isIn (st : twS) (v0 : Int32) (v1 : Int32) : Option (Int32 × twS) :=
  (if ((v1 >>> (v0 &&& 31)) &&& 1) = 1 then
    some (1, st)
  else
    some (0, st))
def f_X8_hasPower (st : twS) : Option (Int32 × twS) :=
  (if twb 0 2 = true then (if (st.2.1 6 (0 : Int32).toNatClampNeg) = 0 then
    some (1, st)
  else
    (if twb 1 2 = true then (if (st.2.1 6 (1 : Int32).toNatClampNeg) = 0 then
    some (1, st)
  else
    some (0, st)) else none)) else none)
def f_X8_build_L25 (v1 : Int32) (v2 : Int32) (k0 : Int32) (k1 : Int32) (k2 : Int32) (st : twS) : Option (twS) :=
  ((f_X8_goes st k2 k1 k0).bind fun y25001 => (if y25001.1 = 0 then
    some y25001.2
  else
    some (twI (twI (twI (twI (twI y25001.2 6 v1) 7 0) 8 0) 9 v2) 10 0)))
def f_X8_build (st : twS) (v1 : Int32) (v2 : Int32) : Option (twS) :=
  ((f_X8_isSegment st v2).bind fun y1 => ((f_X8_isBetween y1.2 v1 0 4095).bind fun y2 => (if (y2.2.1 0) = 0 then
    f_X8_build_L25 v1 v2 1 y2.1 y1.1 y2.2
  else
    f_X8_build_L25 v1 v2 0 y2.1 y1.1 y2.2)))
def f_X8_people_L45b (rec : Int32 → Int32 → Int32 → twS → Option (Int32 × twS)) (v1 : Int32) (v2 : Int32) (v4 : Int32) (st : twS) : Option (Int32 × twS) :=
  (if v2 ≤ v4 then
    some ((st.1 31), st)
  else
    (if twb (st.1 31) 30 = true then (if twb ((twA st 12 (st.1 31) v1).1 31) 30 = true then rec v1 v2 (v4 + 1) (twI (twA (twA st 12 (st.1 31) v1) 14 ((twA st 12 (st.1 31) v1).1 31) (-1)) 31 (((twA (twA st 12 (st.1 31) v1) 14 ((twA st 12 (st.1 31) v1).1 31) (-1)).1 31) + 1)) else none) else none))
def f_X8_people_L45 : Nat → Int32 → Int32 → Int32 → twS → Option (Int32 × twS)
  | 0 => fun _ _ _ _ => none
  | n + 1 => fun v1 v2 v4 st => f_X8_people_L45b (f_X8_people_L45 n) v1 v2 v4 st
def f_X8_people_L34 (v1 : Int32) (v2 : Int32) (k0 : Int32) (k1 : Int32) (k2 : Int32) (st : twS) : Option (Int32 × twS) :=
  ((f_X8_goes st k2 k1 k0).bind fun y34001 => (if y34001.1 = 0 then
    some (0, y34001.2)
  else
    f_X8_people_L45 twN v1 v2 0 y34001.2))
def f_X8_people_L33 (v1 : Int32) (v2 : Int32) (k0 : Int32) (k1 : Int32) (st : twS) : Option (Int32 × twS) :=
  f_X8_people_L34 v1 v2 0 k0 k1 st
def f_X8_people (st : twS) (v1 : Int32) (v2 : Int32) : Option (Int32 × twS) :=
  ((f_X8_isBetween st v2 1 30).bind fun y1 => ((f_X8_isSegment y1.2 v1).bind fun y2 => (if y1.1 = 0 then
    f_X8_people_L33 v1 v2 y1.1 y2.1 y2.2
  else
    (if 30 < ((y2.2.1 31) + v2) then
    f_X8_people_L33 v1 v2 y1.1 y2.1 y2.2
  else
    f_X8_people_L34 v1 v2 1 y1.1 y2.1 y2.2))))
def f_X8_wind (st : twS) (v1 : Int32) : Option (Int32 × twS) :=
  ((f_X8_isBetween st v1 (-40) 40).bind fun y1 => ((f_X8_goes y1.2 y1.1 1 1).bind fun y2 => (if y2.1 = 0 then
    some (0, y2.2)
  else
    some ((y2.2.1 15), (twI y2.2 15 v1)))))
def f_X8_fire_L26 (v1 : Int32) (v2 : Int32) (k0 : Int32) (k1 : Int32) (k2 : Int32) (st : twS) : Option (twS) :=
  ((f_X8_goes st k2 k1 k0).bind fun y26001 => (if y26001.1 = 0 then
    some y26001.2
  else
    some (twI (twI y26001.2 18 v1) 19 v2)))
def f_X8_fire (st : twS) (v1 : Int32) (v2 : Int32) : Option (twS) :=
  ((f_X8_isSegment st v1).bind fun y1 => ((f_X8_isBetween y1.2 v2 1 200).bind fun y2 => (if (y2.2.1 18) = (-1) then
    f_X8_fire_L26 v1 v2 1 y2.1 y1.1 y2.2
  else
    f_X8_fire_L26 v1 v2 0 y2.1 y1.1 y2.2)))
def f_X8_feed_L31 (k0 : Int32) (k1 : Int32) (st : twS) : Option (Int32 × twS) :=
  (if twb k1 2 = true then ((f_X8_hasPower (twA st 6 k1 (vp_nar .boolean k0))).bind fun y31002 => (if twz y31002.1 = true then some (y31002.1, y31002.2) else none)) else none)
def f_X8_feed (st : twS) (v1 : Int32) (v2 : Int32) : Option (Int32 × twS) :=
  ((f_X8_isBetween st v1 0 1).bind fun y1 => ((f_X8_goes y1.2 y1.1 1 1).bind fun y2 => (if y2.1 = 0 then
    some (0, y2.2)
  else
    (if v2 = 0 then
    f_X8_feed_L31 1 v1 y2.2
  else
    f_X8_feed_L31 0 v1 y2.2))))
def f_X8_failFan (st : twS) (v1 : Int32) (v2 : Int32) : Option (Int32 × twS) :=
  ((f_X8_isFan st v1).bind fun y1 => ((f_X8_goes y1.2 y1.1 1 1).bind fun y2 => (if y2.1 = 0 then
    some (0, y2.2)
  else
    (if twb v1 3 = true then (if twb v1 3 = true then some (((twA y2.2 5 v1 (vp_nar .boolean v2)).2.1 4 v1.toNatClampNeg), (twA y2.2 5 v1 (vp_nar .boolean v2))) else none) else none))))
def f_X8_failDoor_L60 (v1 : Int32) (k0 : Int32) (st : twS) : Option (Int32 × twS) :=
  ((f_X8_isIn (twI st 8 k0) v1 ((twI st 8 k0).1 7)).bind fun y60001 => (if twz y60001.1 = true then some (y60001.1, y60001.2) else none))
def f_X8_failDoor_L24 (v1 : Int32) (v2 : Int32) (k0 : Int32) (st : twS) : Option (Int32 × twS) :=
  ((f_X8_goes st k0 1 1).bind fun y24001 => (if y24001.1 = 0 then
    some (0, y24001.2)
  else
    (if v2 = 0 then
    f_X8_failDoor_L60 v1 ((y24001.2.1 8) &&& ((1 <<< (v1 &&& 31)) ^^^ (-1))) y24001.2
  else
    f_X8_failDoor_L60 v1 ((y24001.2.1 8) ||| (1 <<< (v1 &&& 31))) y24001.2)))
def f_X8_failDoor_L23 (v1 : Int32) (v2 : Int32) (st : twS) : Option (Int32 × twS) :=
  f_X8_failDoor_L24 v1 v2 0 st
def f_X8_failDoor (st : twS) (v1 : Int32) (v2 : Int32) : Option (Int32 × twS) :=
  ((f_X8_isSegment st v1).bind fun y1 => (if y1.1 = 0 then
    f_X8_failDoor_L23 v1 v2 y1.2
  else
    ((f_X8_isIn y1.2 v1 (y1.2.1 6)).bind fun y3 => (if y3.1 = 0 then
    f_X8_failDoor_L23 v1 v2 y3.2
  else
    f_X8_failDoor_L24 v1 v2 1 y3.2))))
def f_X8_failDetector_L22 (v1 : Int32) (v2 : Int32) (v3 : Int32) (k0 : Int32) (st : twS) : Option (twS) :=
  ((f_X8_goes st k0 1 1).bind fun y22001 => (if y22001.1 = 0 then
    some y22001.2
  else
    (if twb ((3 * v1) + v2) 36 = true then some (twA y22001.2 7 ((3 * v1) + v2) (vp_nar .boolean v3)) else none)))
def f_X8_failDetector_L21 (v1 : Int32) (v2 : Int32) (v3 : Int32) (st : twS) : Option (twS) :=
  f_X8_failDetector_L22 v1 v2 v3 0 st
def f_X8_failDetector (st : twS) (v1 : Int32) (v2 : Int32) (v3 : Int32) : Option (twS) :=
  ((f_X8_isSegment st v1).bind fun y1 => (if y1.1 = 0 then
    f_X8_failDetector_L21 v1 v2 v3 y1.2
  else
    ((f_X8_isBetween y1.2 v2 0 2).bind fun y3 => (if y3.1 = 0 then
    f_X8_failDetector_L21 v1 v2 v3 y3.2
  else
    f_X8_failDetector_L22 v1 v2 v3 1 y3.2))))
def f_X8_act_L88 (k0 : Int32) (k1 : Int32) (st : twS) : Option (Int32 × twS) :=
  (if twb k1 10 = true then (if twb ((twA st 9 k1 k0).1 25) 10 = true then some ((((twI (twA (twA st 9 k1 k0) 10 ((twA st 9 k1 k0).1 25) (-1)) 25 (((twA (twA st 9 k1 k0) 10 ((twA st 9 k1 k0).1 25) (-1)).1 25) + 1)).1 25) - 1), (twI (twA (twA st 9 k1 k0) 10 ((twA st 9 k1 k0).1 25) (-1)) 25 (((twA (twA st 9 k1 k0) 10 ((twA st 9 k1 k0).1 25) (-1)).1 25) + 1))) else none) else none)
def f_X8_act_L48 (v1 : Int32) (v2 : Int32) (v3 : Int32) (k0 : Int32) (k1 : Int32) (st : twS) : Option (Int32 × twS) :=
  ((f_X8_goes st k1 k0 1).bind fun y48001 => (if y48001.1 = 0 then
    some (0, y48001.2)
  else
    (if twb (y48001.2.1 25) 10 = true then (if v3 = 0 then
    f_X8_act_L88 v2 ((twA y48001.2 8 (y48001.2.1 25) v1).1 25) (twA y48001.2 8 (y48001.2.1 25) v1)
  else
    f_X8_act_L88 ((2 * v2) + 3) ((twA y48001.2 8 (y48001.2.1 25) v1).1 25) (twA y48001.2 8 (y48001.2.1 25) v1)) else none)))
def f_X8_act_L47 (v1 : Int32) (v2 : Int32) (v3 : Int32) (k0 : Int32) (st : twS) : Option (Int32 × twS) :=
  f_X8_act_L48 v1 v2 v3 0 k0 st
def f_X8_act_L26 (v1 : Int32) (v2 : Int32) (v3 : Int32) (k0 : Int32) (st : twS) : Option (Int32 × twS) :=
  (if 10 ≤ (st.1 25) then
    f_X8_act_L47 v1 v2 v3 k0 st
  else
    (if (st.1 24) = (-1) then
    f_X8_act_L48 v1 v2 v3 1 k0 st
  else
    f_X8_act_L47 v1 v2 v3 k0 st))
def f_X8_act_L25 (v1 : Int32) (v2 : Int32) (v3 : Int32) (st : twS) : Option (Int32 × twS) :=
  f_X8_act_L26 v1 v2 v3 0 st
def f_X8_act (st : twS) (v1 : Int32) (v2 : Int32) (v3 : Int32) : Option (Int32 × twS) :=
  ((f_X8_isBetween st v1 0 7).bind fun y1 => (if y1.1 = 0 then
    f_X8_act_L25 v1 v2 v3 y1.2
  else
    ((f_X8_isBetween y1.2 v2 0 20).bind fun y3 => (if y3.1 = 0 then
    f_X8_act_L25 v1 v2 v3 y3.2
  else
    f_X8_act_L26 v1 v2 v3 1 y3.2))))
def f_X8_command (st : twS) (v1 : Int32) (v2 : Int32) : Option (Int32 × twS) :=
  ((f_X8_isFan st v1).bind fun y1 => ((f_X8_isBetween y1.2 v2 (-1) 1).bind fun y2 => ((f_X8_goes y2.2 y1.1 y2.1 1).bind fun y3 => (if y3.1 = 0 then
    some (0, y3.2)
  else
    (if twb v1 3 = true then (if twb v1 3 = true then some ((y3.2.2.1 3 v1.toNatClampNeg), (twA y3.2 3 v1 v2)) else none) else none)))))
def f_X8_doesAct_L105b (rec : Int32 → Int32 → twS → Option (twS)) (v1 : Int32) (v2 : Int32) (st : twS) : Option (twS) :=
  (if 3 ≤ v2 then
    some st
  else
    (if v1 = 3 then
    (if twb v2 3 = true then rec v1 (v2 + 1) (twA st 3 v2 (-1)) else none)
  else
    (if v1 = 4 then
    (if twb v2 3 = true then rec v1 (v2 + 1) (twA st 3 v2 1) else none)
  else
    (if twb v2 3 = true then rec v1 (v2 + 1) (twA st 3 v2 0) else none))))
def f_X8_doesAct_L105 : Nat → Int32 → Int32 → twS → Option (twS)
  | 0 => fun _ _ _ => none
  | n + 1 => fun v1 v2 st => f_X8_doesAct_L105b (f_X8_doesAct_L105 n) v1 v2 st
def f_X8_doesAct (st : twS) (v1 : Int32) : Option (twS) :=
  (if v1 = 0 then
    some (twI st 12 1)
  else
    (if v1 = 1 then
    some (twI st 13 1)
  else
    (if v1 = 2 then
    some (twI st 7 ((st.1 7) ||| ((st.1 6) &&& ((st.1 8) ^^^ (-1)))))
  else
    (if v1 = 6 then
    some (twI st 10 1)
  else
    (if v1 = 7 then
    some (twI st 11 1)
  else
    f_X8_doesAct_L105 twN v1 0 st)))))
def f_X8_fans_L24 (rec : Int32 → twS → Option (twS)) (v1 : Int32) (k0 : Int32) (st : twS) : Option (twS) :=
  (if twb v1 3 = true then (if (st.2.1 5 v1.toNatClampNeg) = 0 then
    (if twb v1 3 = true then (if twb v1 3 = true then (if k0 ≤ (st.2.1 4 v1.toNatClampNeg) then
    (if twb v1 3 = true then (if (st.2.1 4 v1.toNatClampNeg) ≤ k0 then
    (if twb v1 3 = true then rec (v1 + 1) (twA st 4 v1 ((st.2.1 4 v1.toNatClampNeg) + 0)) else none)
  else
    (if twb v1 3 = true then rec (v1 + 1) (twA st 4 v1 ((st.2.1 4 v1.toNatClampNeg) + (-1))) else none)) else none)
  else
    (if twb v1 3 = true then rec (v1 + 1) (twA st 4 v1 ((st.2.1 4 v1.toNatClampNeg) + 1)) else none)) else none) else none)
  else
    rec (v1 + 1) st) else none)
def f_X8_fans_L2b (rec : Int32 → twS → Option (twS)) (v1 : Int32) (st : twS) : Option (twS) :=
  (if 3 ≤ v1 then
    some st
  else
    ((f_X8_hasPower st).bind fun y2002 => (if y2002.1 = 0 then
    f_X8_fans_L24 rec v1 0 y2002.2
  else
    (if twb v1 3 = true then f_X8_fans_L24 rec v1 (y2002.2.2.1 3 v1.toNatClampNeg) y2002.2 else none))))
def f_X8_fans_L2 : Nat → Int32 → twS → Option (twS)
  | 0 => fun _ _ => none
  | n + 1 => fun v1 st => f_X8_fans_L2b (f_X8_fans_L2 n) v1 st
def f_X8_fans (st : twS) : Option (twS) :=
  f_X8_fans_L2 twN 0 st
def f_X8_flows_L65 (k0 : Int32) (st : twS) : Option (twS) :=
  (if twn (FP.dsub (FP.i2d k0) st.2.2.2) = true then (if twn (FP.ddiv (FP.dsub (FP.i2d k0) st.2.2.2) 4616189618054758400) = true then (if twn (FP.dadd st.2.2.2 (FP.ddiv (FP.dsub (FP.i2d k0) st.2.2.2) 4616189618054758400)) = true then some (twD st (FP.dadd st.2.2.2 (FP.ddiv (FP.dsub (FP.i2d k0) st.2.2.2) 4616189618054758400))) else none) else none) else none)
def f_X8_flows_L40 (k0 : Int32) (k1 : Int32) (st : twS) : Option (twS) :=
  (if (-90) ≤ (k1 + k0) then
    (if (k1 + k0) ≤ 90 then
    f_X8_flows_L65 (k1 + k0) st
  else
    f_X8_flows_L65 90 st)
  else
    f_X8_flows_L65 (-90) st)
def f_X8_flows (st : twS) : Option (twS) :=
  (if twb 0 3 = true then (if twb 1 3 = true then (if twb 2 3 = true then (if (st.1 12) = 0 then
    f_X8_flows_L40 5 ((15 * (((st.2.1 4 (0 : Int32).toNatClampNeg) + (st.2.1 4 (1 : Int32).toNatClampNeg)) + (st.2.1 4 (2 : Int32).toNatClampNeg))) + (st.1 15)) st
  else
    f_X8_flows_L40 0 ((15 * (((st.2.1 4 (0 : Int32).toNatClampNeg) + (st.2.1 4 (1 : Int32).toNatClampNeg)) + (st.2.1 4 (2 : Int32).toNatClampNeg))) + (st.1 15)) st) else none) else none) else none)
def f_X8_burns_L91 (v1 : Int32) (st : twS) : Option (twS) :=
  (if twb ((twI st 20 ((st.1 20) + 1)).1 18) 12 = true then (if twb ((twI st 20 ((st.1 20) + 1)).1 18) 12 = true then (if twb ((twA (twI st 20 ((st.1 20) + 1)) 1 ((twI st 20 ((st.1 20) + 1)).1 18) (((twI st 20 ((st.1 20) + 1)).2.1 1 ((twI st 20 ((st.1 20) + 1)).1 18).toNatClampNeg) + v1)).1 18) 12 = true then (if twb ((twA (twI st 20 ((st.1 20) + 1)) 1 ((twI st 20 ((st.1 20) + 1)).1 18) (((twI st 20 ((st.1 20) + 1)).2.1 1 ((twI st 20 ((st.1 20) + 1)).1 18).toNatClampNeg) + v1)).1 18) 12 = true then some (twI (twA (twA (twI st 20 ((st.1 20) + 1)) 1 ((twI st 20 ((st.1 20) + 1)).1 18) (((twI st 20 ((st.1 20) + 1)).2.1 1 ((twI st 20 ((st.1 20) + 1)).1 18).toNatClampNeg) + v1)) 2 ((twA (twI st 20 ((st.1 20) + 1)) 1 ((twI st 20 ((st.1 20) + 1)).1 18) (((twI st 20 ((st.1 20) + 1)).2.1 1 ((twI st 20 ((st.1 20) + 1)).1 18).toNatClampNeg) + v1)).1 18) (((twA (twI st 20 ((st.1 20) + 1)) 1 ((twI st 20 ((st.1 20) + 1)).1 18) (((twI st 20 ((st.1 20) + 1)).2.1 1 ((twI st 20 ((st.1 20) + 1)).1 18).toNatClampNeg) + v1)).2.1 2 ((twA (twI st 20 ((st.1 20) + 1)) 1 ((twI st 20 ((st.1 20) + 1)).1 18) (((twI st 20 ((st.1 20) + 1)).2.1 1 ((twI st 20 ((st.1 20) + 1)).1 18).toNatClampNeg) + v1)).1 18).toNatClampNeg) + v1)) 21 (((twA (twA (twI st 20 ((st.1 20) + 1)) 1 ((twI st 20 ((st.1 20) + 1)).1 18) (((twI st 20 ((st.1 20) + 1)).2.1 1 ((twI st 20 ((st.1 20) + 1)).1 18).toNatClampNeg) + v1)) 2 ((twA (twI st 20 ((st.1 20) + 1)) 1 ((twI st 20 ((st.1 20) + 1)).1 18) (((twI st 20 ((st.1 20) + 1)).2.1 1 ((twI st 20 ((st.1 20) + 1)).1 18).toNatClampNeg) + v1)).1 18) (((twA (twI st 20 ((st.1 20) + 1)) 1 ((twI st 20 ((st.1 20) + 1)).1 18) (((twI st 20 ((st.1 20) + 1)).2.1 1 ((twI st 20 ((st.1 20) + 1)).1 18).toNatClampNeg) + v1)).2.1 2 ((twA (twI st 20 ((st.1 20) + 1)) 1 ((twI st 20 ((st.1 20) + 1)).1 18) (((twI st 20 ((st.1 20) + 1)).2.1 1 ((twI st 20 ((st.1 20) + 1)).1 18).toNatClampNeg) + v1)).1 18).toNatClampNeg) + v1)).1 21) + v1)) else none) else none) else none) else none)
def f_X8_burns_L55 (k0 : Int32) (st : twS) : Option (twS) :=
  (if (st.1 11) = 0 then
    f_X8_burns_L91 k0 st
  else
    (if (st.1 14) ≤ 0 then
    f_X8_burns_L91 k0 st
  else
    ((f_X8_hasPower st).bind fun y55003 => (if y55003.1 = 0 then
    f_X8_burns_L91 k0 y55003.2
  else
    f_X8_burns_L91 (k0 / 2) (twI y55003.2 14 ((y55003.2.1 14) - 1))))))
def f_X8_burns_L38 (k0 : Int32) (st : twS) : Option (twS) :=
  (if (st.1 19) ≤ k0 then
    f_X8_burns_L55 (st.1 19) st
  else
    f_X8_burns_L55 k0 st)
def f_X8_burns (st : twS) : Option (twS) :=
  (if (st.1 18) = (-1) then
    some st
  else
    (if (st.1 20) ≤ 100 then
    f_X8_burns_L38 (1 + (((st.1 20) * (st.1 20)) / 4)) st
  else
    f_X8_burns_L38 (st.1 19) st))
def f_X8_strength (st : twS) : Option (UInt64 × twS) :=
  (if 0 ≤ (Op.cmpValue (FP.dcmp st.2.2.2 FP.dconst0) CmpOp.g) then
    some (st.2.2.2, st)
  else
    some ((FP.dneg st.2.2.2), st))
def f_X8_comes (st : twS) (v1 : Int32) (v2 : Int32) : Option (twS) :=
  ((f_X8_isSegment st v1).bind fun y1 => (if y1.1 = 0 then
    some (twI y1.2 22 ((y1.2.1 22) + v2))
  else
    (if twb v1 12 = true then (if twb v1 12 = true then some (twA y1.2 1 v1 ((y1.2.2.1 1 v1.toNatClampNeg) + v2)) else none) else none)))
def f_X8_moves_L200b (rec : Int32 → twS → Option (twS)) (v4 : Int32) (st : twS) : Option (twS) :=
  (if 12 ≤ v4 then
    some st
  else
    (if twb v4 12 = true then (if twb v4 12 = true then (if twb v4 12 = true then rec (v4 + 1) (twA st 2 v4 ((st.2.1 2 v4.toNatClampNeg) - (((st.2.1 2 v4.toNatClampNeg) + 3) / 4))) else none) else none) else none))
def f_X8_moves_L200 : Nat → Int32 → twS → Option (twS)
  | 0 => fun _ _ => none
  | n + 1 => fun v4 st => f_X8_moves_L200b (f_X8_moves_L200 n) v4 st
def f_X8_moves_L152 (st : twS) : Option (twS) :=
  (if (st.1 10) = 0 then
    f_X8_moves_L200 twN 0 st
  else
    (if twb (st.1 9) 12 = true then (if twb (st.1 9) 12 = true then (if twb (st.1 9) 12 = true then f_X8_moves_L200 twN 0 (twI (twA st 1 (st.1 9) ((st.2.1 1 (st.1 9).toNatClampNeg) - ((st.2.1 1 (st.1 9).toNatClampNeg) / 3))) 22 (((twA st 1 (st.1 9) ((st.2.1 1 (st.1 9).toNatClampNeg) - ((st.2.1 1 (st.1 9).toNatClampNeg) / 3))).1 22) + ((st.2.1 1 (st.1 9).toNatClampNeg) / 3))) else none) else none) else none))
def f_X8_moves_L36b (rec : Int32 → Int32 → Int32 → Int32 → twS → Option (twS)) (v1 : Int32) (v2 : Int32) (v3 : Int32) (v4 : Int32) (st : twS) : Option (twS) :=
  (if 12 ≤ v4 then
    (if (st.1 18) = (-1) then
    f_X8_moves_L152 st
  else
    ((f_X8_strength st).bind fun y36003 => (if 0 ≤ (Op.cmpValue (FP.dcmp y36003.1 4629137466983448576) CmpOp.g) then
    f_X8_moves_L152 y36003.2
  else
    (if twb (y36003.2.1 18) 12 = true then (if twb (y36003.2.1 18) 12 = true then (if twb (y36003.2.1 18) 12 = true then ((f_X8_comes (twA y36003.2 1 (y36003.2.1 18) ((y36003.2.2.1 1 (y36003.2.1 18).toNatClampNeg) - ((y36003.2.2.1 1 (y36003.2.1 18).toNatClampNeg) / 10))) (((twA y36003.2 1 (y36003.2.1 18) ((y36003.2.2.1 1 (y36003.2.1 18).toNatClampNeg) - ((y36003.2.2.1 1 (y36003.2.1 18).toNatClampNeg) / 10))).1 18) - v2) ((y36003.2.2.1 1 (y36003.2.1 18).toNatClampNeg) / 10)).bind fun y36008 => f_X8_moves_L152 y36008) else none) else none) else none))))
  else
    (if twb (v3 - (v2 * v4)) 12 = true then (if twb (v3 - (v2 * v4)) 12 = true then (if twb (v3 - (v2 * v4)) 12 = true then ((f_X8_comes (twA st 1 (v3 - (v2 * v4)) ((st.2.1 1 (v3 - (v2 * v4)).toNatClampNeg) - (((st.2.1 1 (v3 - (v2 * v4)).toNatClampNeg) * v1) / 100))) ((v3 - (v2 * v4)) + v2) (((st.2.1 1 (v3 - (v2 * v4)).toNatClampNeg) * v1) / 100)).bind fun y36012 => rec v1 v2 v3 (v4 + 1) y36012) else none) else none) else none))
def f_X8_moves_L36 : Nat → Int32 → Int32 → Int32 → Int32 → twS → Option (twS)
  | 0 => fun _ _ _ _ _ => none
  | n + 1 => fun v1 v2 v3 v4 st => f_X8_moves_L36b (f_X8_moves_L36 n) v1 v2 v3 v4 st
def f_X8_moves_L20 (v1 : Int32) (k0 : Int32) (st : twS) : Option (twS) :=
  (if k0 = 1 then
    f_X8_moves_L36 twN v1 k0 11 0 st
  else
    f_X8_moves_L36 twN v1 k0 0 0 st)
def f_X8_moves (st : twS) : Option (twS) :=
  ((f_X8_strength st).bind fun y1 => (if 0 ≤ (Op.cmpValue (FP.dcmp y1.2.2.2.2 FP.dconst0) CmpOp.g) then
    f_X8_moves_L20 (FP.d2i y1.1) 1 y1.2
  else
    f_X8_moves_L20 (FP.d2i y1.1) (-1) y1.2))
def f_X8_personsIn_L37 (rec : Int32 → Int32 → Int32 → twS → Option (Int32 × twS)) (v1 : Int32) (v3 : Int32) (k0 : Int32) (st : twS) : Option (Int32 × twS) :=
  rec v1 (k0 + 0) (v3 + 1) st
def f_X8_personsIn_L4b (rec : Int32 → Int32 → Int32 → twS → Option (Int32 × twS)) (v1 : Int32) (v2 : Int32) (v3 : Int32) (st : twS) : Option (Int32 × twS) :=
  (if (st.1 31) ≤ v3 then
    some (v2, st)
  else
    (if twb v3 30 = true then (if (st.2.1 11 v3.toNatClampNeg) = 3 then
    f_X8_personsIn_L37 rec v1 v3 v2 st
  else
    (if twb v3 30 = true then (if (st.2.1 12 v3.toNatClampNeg) = v1 then
    rec v1 (v2 + 1) (v3 + 1) st
  else
    f_X8_personsIn_L37 rec v1 v3 v2 st) else none)) else none))
def f_X8_personsIn_L4 : Nat → Int32 → Int32 → Int32 → twS → Option (Int32 × twS)
  | 0 => fun _ _ _ _ => none
  | n + 1 => fun v1 v2 v3 st => f_X8_personsIn_L4b (f_X8_personsIn_L4 n) v1 v2 v3 st
def f_X8_personsIn (st : twS) (v1 : Int32) : Option (Int32 × twS) :=
  f_X8_personsIn_L4 twN v1 0 0 st
def f_X8_tells_L58 (v1 : Int32) (k0 : Int32) (k1 : Int32) (st : twS) : Option (Int32 × twS) :=
  (if twb v1 12 = true then (if (st.2.1 1 v1.toNatClampNeg) < 10 then
    some (((k1 + k0) + 0), st)
  else
    ((f_X8_personsIn st v1).bind fun y58003 => (if y58003.1 ≤ 0 then
    some (((k1 + k0) + 0), y58003.2)
  else
    (if twb ((3 * v1) + 2) 36 = true then (if (y58003.2.2.1 7 ((3 * v1) + 2).toNatClampNeg) = 0 then
    some (((k1 + k0) + 1), y58003.2)
  else
    some (((k1 + k0) + 0), y58003.2)) else none)))) else none)
def f_X8_tells_L57 (v1 : Int32) (k0 : Int32) (st : twS) : Option (Int32 × twS) :=
  f_X8_tells_L58 v1 0 k0 st
def f_X8_tells_L27 (v1 : Int32) (k0 : Int32) (st : twS) : Option (Int32 × twS) :=
  (if twb v1 12 = true then (if (st.2.1 1 v1.toNatClampNeg) < 15 then
    f_X8_tells_L57 v1 k0 st
  else
    (if twb ((3 * v1) + 1) 36 = true then (if (st.2.1 7 ((3 * v1) + 1).toNatClampNeg) = 0 then
    f_X8_tells_L58 v1 1 k0 st
  else
    f_X8_tells_L57 v1 k0 st) else none)) else none)
def f_X8_tells_L26 (v1 : Int32) (st : twS) : Option (Int32 × twS) :=
  f_X8_tells_L27 v1 0 st
def f_X8_tells (st : twS) (v1 : Int32) : Option (Int32 × twS) :=
  (if twb v1 12 = true then (if (st.2.1 2 v1.toNatClampNeg) < 20 then
    f_X8_tells_L26 v1 st
  else
    (if twb (3 * v1) 36 = true then (if (st.2.1 7 (3 * v1).toNatClampNeg) = 0 then
    f_X8_tells_L27 v1 1 st
  else
    f_X8_tells_L26 v1 st) else none)) else none)
def f_X8_detects_L2b (rec : Int32 → twS → Option (twS)) (v1 : Int32) (st : twS) : Option (twS) :=
  (if 12 ≤ v1 then
    some st
  else
    (if (st.1 24) = (-1) then
    ((f_X8_tells st v1).bind fun y2003 => (if y2003.1 < 2 then
    rec (v1 + 1) y2003.2
  else
    (if twb 0 10 = true then rec (v1 + 1) (twI (twI y2003.2 24 v1) 30 (((twI y2003.2 24 v1).1 0) + ((twI y2003.2 24 v1).2.1 9 (0 : Int32).toNatClampNeg))) else none)))
  else
    some st))
def f_X8_detects_L2 : Nat → Int32 → twS → Option (twS)
  | 0 => fun _ _ => none
  | n + 1 => fun v1 st => f_X8_detects_L2b (f_X8_detects_L2 n) v1 st
def f_X8_detects (st : twS) : Option (twS) :=
  f_X8_detects_L2 twN 0 st
def f_X8_charts_L0b (rec : twS → Option (twS)) (st : twS) : Option (twS) :=
  (if (st.1 24) = (-1) then
    some st
  else
    (if (st.1 25) ≤ (st.1 29) then
    some st
  else
    (if (st.1 0) < (st.1 30) then
    some st
  else
    (if twb (st.1 29) 10 = true then ((f_X8_doesAct st (st.2.1 8 (st.1 29).toNatClampNeg)).bind fun y5 => (if twb (y5.1 29) 10 = true then (if ((twI (twA y5 10 (y5.1 29) (y5.1 0)) 29 (((twA y5 10 (y5.1 29) (y5.1 0)).1 29) + 1)).1 25) ≤ ((twI (twA y5 10 (y5.1 29) (y5.1 0)) 29 (((twA y5 10 (y5.1 29) (y5.1 0)).1 29) + 1)).1 29) then
    rec (twI (twI (twA y5 10 (y5.1 29) (y5.1 0)) 29 (((twA y5 10 (y5.1 29) (y5.1 0)).1 29) + 1)) 30 (((twI (twA y5 10 (y5.1 29) (y5.1 0)) 29 (((twA y5 10 (y5.1 29) (y5.1 0)).1 29) + 1)).1 30) + 0))
  else
    (if twb ((twI (twA y5 10 (y5.1 29) (y5.1 0)) 29 (((twA y5 10 (y5.1 29) (y5.1 0)).1 29) + 1)).1 29) 10 = true then rec (twI (twI (twA y5 10 (y5.1 29) (y5.1 0)) 29 (((twA y5 10 (y5.1 29) (y5.1 0)).1 29) + 1)) 30 (((twI (twA y5 10 (y5.1 29) (y5.1 0)) 29 (((twA y5 10 (y5.1 29) (y5.1 0)).1 29) + 1)).1 30) + ((twI (twA y5 10 (y5.1 29) (y5.1 0)) 29 (((twA y5 10 (y5.1 29) (y5.1 0)).1 29) + 1)).2.1 9 ((twI (twA y5 10 (y5.1 29) (y5.1 0)) 29 (((twA y5 10 (y5.1 29) (y5.1 0)).1 29) + 1)).1 29).toNatClampNeg))) else none)) else none)) else none))))
def f_X8_charts_L0 : Nat → twS → Option (twS)
  | 0 => fun  _ => none
  | n + 1 => fun st => f_X8_charts_L0b (f_X8_charts_L0 n) st
def f_X8_charts (st : twS) : Option (twS) :=
  f_X8_charts_L0 twN st
def f_X8_aim_L91 (rec : Int32 → Int32 → Int32 → Int32 → Int32 → twS → Option (Int32 × twS)) (v1 : Int32) (v5 : Int32) (v6 : Int32) (st : twS) : Option (Int32 × twS) :=
  rec v1 v5 v6 1 (v5 + 1) st
def f_X8_aim_L60 (rec : Int32 → Int32 → Int32 → Int32 → Int32 → twS → Option (Int32 × twS)) (v1 : Int32) (v2 : Int32) (v3 : Int32) (v4 : Int32) (v5 : Int32) (k0 : Int32) (st : twS) : Option (Int32 × twS) :=
  ((f_X8_isIn st v5 (st.1 7)).bind fun y60001 => (if y60001.1 = 0 then
    rec v1 v2 v3 v4 (v5 + 1) y60001.2
  else
    (if k0 < v3 then
    f_X8_aim_L91 rec v1 v5 k0 y60001.2
  else
    (if k0 = v3 then
    (if v4 = 0 then
    f_X8_aim_L91 rec v1 v5 k0 y60001.2
  else
    rec v1 v2 v3 v4 (v5 + 1) y60001.2)
  else
    rec v1 v2 v3 v4 (v5 + 1) y60001.2))))
def f_X8_aim_L36b (rec : Int32 → Int32 → Int32 → Int32 → Int32 → twS → Option (Int32 × twS)) (v1 : Int32) (v2 : Int32) (v3 : Int32) (v4 : Int32) (v5 : Int32) (st : twS) : Option (Int32 × twS) :=
  (if 12 ≤ v5 then
    some (v2, st)
  else
    (if v1 ≤ v5 then
    f_X8_aim_L60 rec v1 v2 v3 v4 v5 (v5 - v1) st
  else
    f_X8_aim_L60 rec v1 v2 v3 v4 v5 (v1 - v5) st))
def f_X8_aim_L36 : Nat → Int32 → Int32 → Int32 → Int32 → Int32 → twS → Option (Int32 × twS)
  | 0 => fun _ _ _ _ _ _ => none
  | n + 1 => fun v1 v2 v3 v4 v5 st => f_X8_aim_L36b (f_X8_aim_L36 n) v1 v2 v3 v4 v5 st
def f_X8_aim_L29 (v1 : Int32) (v2 : Int32) (k0 : Int32) (st : twS) : Option (Int32 × twS) :=
  f_X8_aim_L36 twN v1 v2 k0 0 0 st
def f_X8_aim_L12 (v1 : Int32) (k0 : Int32) (st : twS) : Option (Int32 × twS) :=
  (if 6 ≤ v1 then
    f_X8_aim_L29 v1 k0 (12 - v1) st
  else
    f_X8_aim_L29 v1 k0 (v1 + 1) st)
def f_X8_aim (st : twS) (v1 : Int32) : Option (Int32 × twS) :=
  (if 6 ≤ v1 then
    f_X8_aim_L12 v1 12 st
  else
    f_X8_aim_L12 v1 (-1) st)
def f_X8_ends (st : twS) (v1 : Int32) (v2 : Int32) : Option (twS) :=
  (if twb v1 30 = true then (if twb v1 30 = true then some (twA (twA st 11 v1 v2) 14 v1 ((twA st 11 v1 v2).1 0)) else none) else none)
def f_X8_walks_L64 (v1 : Int32) (st : twS) : Option (twS) :=
  ((f_X8_ends st v1 3).bind fun y64001 => some y64001)
def f_X8_walks_L49 (v1 : Int32) (v2 : Int32) (v3 : Int32) (k0 : Int32) (st : twS) : Option (twS) :=
  (if v3 = v2 then
    f_X8_walks_L64 v1 st
  else
    ((f_X8_isSegment st k0).bind fun y49002 => (if y49002.1 = 0 then
    f_X8_walks_L64 v1 y49002.2
  else
    (if twb v1 30 = true then some (twA y49002.2 12 v1 k0) else none))))
def f_X8_walks_L29 (v1 : Int32) (v2 : Int32) (st : twS) : Option (twS) :=
  ((f_X8_aim st v2).bind fun y29001 => (if v2 ≤ y29001.1 then
    f_X8_walks_L49 v1 v2 y29001.1 (v2 + 1) y29001.2
  else
    f_X8_walks_L49 v1 v2 y29001.1 (v2 - 1) y29001.2))
def f_X8_walks (st : twS) (v1 : Int32) : Option (twS) :=
  (if twb v1 30 = true then (if twb (st.2.1 12 v1.toNatClampNeg) 12 = true then (if (st.2.1 1 (st.2.1 12 v1.toNatClampNeg).toNatClampNeg) < 40 then
    f_X8_walks_L29 v1 (st.2.1 12 v1.toNatClampNeg) st
  else
    (if ((st.1 0) - (st.1 0) / 2 * 2) = 1 then
    some st
  else
    f_X8_walks_L29 v1 (st.2.1 12 v1.toNatClampNeg) st)) else none) else none)
def f_X8_lives_L117 (v1 : Int32) (st : twS) : Option (twS) :=
  (if twb v1 30 = true then (if (st.2.1 11 v1.toNatClampNeg) = 2 then
    ((f_X8_walks st v1).bind fun y117003 => some y117003)
  else
    some st) else none)
def f_X8_lives_L116 (v1 : Int32) (k0 : Int32) (k1 : Int32) (st : twS) : Option (twS) :=
  (if twb k1 30 = true then f_X8_lives_L117 v1 (twA st 11 k1 k0) else none)
def f_X8_lives_L67 (v1 : Int32) (k0 : Int32) (k1 : Int32) (st : twS) : Option (twS) :=
  (if twb k1 30 = true then (if twb v1 30 = true then f_X8_lives_L117 v1 (twA (twA st 11 k1 k0) 13 v1 ((twA st 11 k1 k0).1 0)) else none) else none)
def f_X8_lives_L52 (v1 : Int32) (k0 : Int32) (st : twS) : Option (twS) :=
  (if k0 = 0 then
    f_X8_lives_L67 v1 0 v1 st
  else
    f_X8_lives_L67 v1 1 v1 st)
def f_X8_lives_L47 (v1 : Int32) (st : twS) : Option (twS) :=
  f_X8_lives_L52 v1 1 st
def f_X8_lives (st : twS) (v1 : Int32) : Option (twS) :=
  (if twb v1 30 = true then (if twb (st.2.1 12 v1.toNatClampNeg) 12 = true then (if (st.2.1 1 (st.2.1 12 v1.toNatClampNeg).toNatClampNeg) < 100 then
    (if twb v1 30 = true then (if (st.2.1 11 v1.toNatClampNeg) = 0 then
    (if (st.1 13) = 0 then
    (if (st.2.1 1 (st.2.1 12 v1.toNatClampNeg).toNatClampNeg) < 10 then
    f_X8_lives_L52 v1 0 st
  else
    f_X8_lives_L47 v1 st)
  else
    f_X8_lives_L47 v1 st)
  else
    (if twb v1 30 = true then (if (st.2.1 11 v1.toNatClampNeg) = 1 then
    (if twb v1 30 = true then (if (st.1 0) < ((st.2.1 13 v1.toNatClampNeg) + 3) then
    f_X8_lives_L116 v1 1 v1 st
  else
    f_X8_lives_L116 v1 2 v1 st) else none)
  else
    f_X8_lives_L117 v1 st) else none)) else none)
  else
    ((f_X8_ends st v1 4).bind fun y12 => some y12)) else none) else none)
def f_X8_doesStep_L26b (rec : Int32 → twS → Option (twS)) (v1 : Int32) (st : twS) : Option (twS) :=
  (if (st.1 31) ≤ v1 then
    some (twI st 0 ((st.1 0) + 1))
  else
    (if twb v1 30 = true then (if 2 < (st.2.1 11 v1.toNatClampNeg) then
    rec (v1 + 1) st
  else
    ((f_X8_lives st v1).bind fun y26004 => rec (v1 + 1) y26004)) else none))
def f_X8_doesStep_L26 : Nat → Int32 → twS → Option (twS)
  | 0 => fun _ _ => none
  | n + 1 => fun v1 st => f_X8_doesStep_L26b (f_X8_doesStep_L26 n) v1 st
def f_X8_doesStep (st : twS) : Option (twS) :=
  ((f_X8_fans st).bind fun y1 => ((f_X8_flows y1).bind fun y2 => ((f_X8_burns y2).bind fun y3 => ((f_X8_moves y3).bind fun y4 => ((f_X8_detects y4).bind fun y5 => ((f_X8_charts y5).bind fun y6 => f_X8_doesStep_L26 twN 0 y6))))))
def f_X8_step_L20b (rec : Int32 → Int32 → twS → Option (Int32 × twS)) (v1 : Int32) (v2 : Int32) (st : twS) : Option (Int32 × twS) :=
  (if v1 ≤ v2 then
    some ((st.1 0), st)
  else
    ((f_X8_doesStep st).bind fun y20002 => rec v1 (v2 + 1) y20002))
def f_X8_step_L20 : Nat → Int32 → Int32 → twS → Option (Int32 × twS)
  | 0 => fun _ _ _ => none
  | n + 1 => fun v1 v2 st => f_X8_step_L20b (f_X8_step_L20 n) v1 v2 st
def f_X8_step (st : twS) (v1 : Int32) : Option (Int32 × twS) :=
  ((f_X8_isBetween st v1 1 100).bind fun y1 => ((f_X8_goes y1.2 y1.1 1 1).bind fun y2 => (if y2.1 = 0 then
    some (0, y2.2)
  else
    f_X8_step_L20 twN v1 0 y2.2)))
def f_X8_segment (st : twS) (v1 : Int32) (v2 : Int32) : Option (Int32 × twS) :=
  ((f_X8_isSegment st v1).bind fun y1 => ((f_X8_isBetween y1.2 v2 0 4).bind fun y2 => ((f_X8_goes y2.2 y1.1 y2.1 1).bind fun y3 => (if y3.1 = 0 then
    some (0, y3.2)
  else
    (if v2 = 0 then
    (if twb v1 12 = true then some ((y3.2.2.1 1 v1.toNatClampNeg), y3.2) else none)
  else
    (if v2 = 1 then
    (if twb v1 12 = true then some ((y3.2.2.1 2 v1.toNatClampNeg), y3.2) else none)
  else
    (if v2 = 2 then
    ((f_X8_tells y3.2 v1).bind fun y12 => some (y12.1, y12.2))
  else
    (if v2 = 3 then
    ((f_X8_personsIn y3.2 v1).bind fun y13 => some (y13.1, y13.2))
  else
    ((f_X8_isIn y3.2 v1 (y3.2.1 6)).bind fun y14 => (if y14.1 = 0 then
    some ((-1), y14.2)
  else
    ((f_X8_isIn y14.2 v1 (y14.2.1 7)).bind fun y16 => (if y16.1 = 0 then
    some (0, y16.2)
  else
    some (1, y16.2)))))))))))))
def f_X8_flow (st : twS) : Option (Int32 × twS) :=
  (if twn (FP.dmul 4636737291354636288 ((twI st 36 0).2.2.2)) = true then some ((FP.d2i (FP.dmul 4636737291354636288 ((twI st 36 0).2.2.2))), (twI st 36 0)) else none)
def f_X8_fan (st : twS) (v1 : Int32) : Option (Int32 × twS) :=
  ((f_X8_isFan st v1).bind fun y1 => ((f_X8_goes y1.2 y1.1 1 1).bind fun y2 => (if y2.1 = 0 then
    some (0, y2.2)
  else
    (if twb v1 3 = true then some ((y2.2.2.1 4 v1.toNatClampNeg), y2.2) else none))))
def f_X8_alarm (st : twS) : Option (Int32 × twS) :=
  some (((twI st 36 0).1 24), (twI st 36 0))
def f_X8_done (st : twS) (v1 : Int32) : Option (Int32 × twS) :=
  ((f_X8_isBetween st v1 0 ((st.1 25) - 1)).bind fun y1 => ((f_X8_goes y1.2 y1.1 1 1).bind fun y2 => (if y2.1 = 0 then
    some (0, y2.2)
  else
    (if twb v1 10 = true then some ((y2.2.2.1 10 v1.toNatClampNeg), y2.2) else none))))
def f_X8_person (st : twS) (v1 : Int32) (v2 : Int32) : Option (Int32 × twS) :=
  ((f_X8_isBetween st v1 0 ((st.1 31) - 1)).bind fun y1 => ((f_X8_isBetween y1.2 v2 0 2).bind fun y2 => ((f_X8_goes y2.2 y1.1 y2.1 1).bind fun y3 => (if y3.1 = 0 then
    some (0, y3.2)
  else
    (if v2 = 0 then
    (if twb v1 30 = true then some ((y3.2.2.1 11 v1.toNatClampNeg), y3.2) else none)
  else
    (if v2 = 2 then
    (if twb v1 30 = true then some ((y3.2.2.1 14 v1.toNatClampNeg), y3.2) else none)
  else
    (if twb v1 30 = true then (if (y3.2.2.1 11 v1.toNatClampNeg) = 3 then
    some ((-1), y3.2)
  else
    (if twb v1 30 = true then some ((y3.2.2.1 12 v1.toNatClampNeg), y3.2) else none)) else none)))))))
def f_X8_counted_L4b (rec : Int32 → Int32 → Int32 → twS → Option (Int32 × twS)) (v1 : Int32) (v2 : Int32) (v3 : Int32) (st : twS) : Option (Int32 × twS) :=
  (if (st.1 31) ≤ v3 then
    some (v2, st)
  else
    (if twb v3 30 = true then (if (st.2.1 11 v3.toNatClampNeg) = v1 then
    rec v1 (v2 + 1) (v3 + 1) st
  else
    rec v1 (v2 + 0) (v3 + 1) st) else none))
def f_X8_counted_L4 : Nat → Int32 → Int32 → Int32 → twS → Option (Int32 × twS)
  | 0 => fun _ _ _ _ => none
  | n + 1 => fun v1 v2 v3 st => f_X8_counted_L4b (f_X8_counted_L4 n) v1 v2 v3 st
def f_X8_counted (st : twS) (v1 : Int32) : Option (Int32 × twS) :=
  f_X8_counted_L4 twN v1 0 0 st
def f_X8_count (st : twS) (v1 : Int32) : Option (Int32 × twS) :=
  ((f_X8_isBetween st v1 0 4).bind fun y1 => ((f_X8_goes y1.2 y1.1 1 1).bind fun y2 => (if y2.1 = 0 then
    some (0, y2.2)
  else
    ((f_X8_counted y2.2 v1).bind fun y4 => some (y4.1, y4.2)))))
def f_X8_gone (st : twS) : Option (Int32 × twS) :=
  some (((twI st 36 0).1 22), (twI st 36 0))
def f_X8_balances_L37b (rec : Int32 → Int32 → Int32 → twS → Option (Int32 × twS)) (v1 : Int32) (v2 : Int32) (v3 : Int32) (st : twS) : Option (Int32 × twS) :=
  (if 4 < v3 then
    (if v1 = (st.1 21) then
    (if v2 = (st.1 31) then
    some (1, st)
  else
    some (0, st))
  else
    some (0, st))
  else
    ((f_X8_counted st v3).bind fun y37004 => rec v1 (v2 + y37004.1) (v3 + 1) y37004.2))
def f_X8_balances_L37 : Nat → Int32 → Int32 → Int32 → twS → Option (Int32 × twS)
  | 0 => fun _ _ _ _ => none
  | n + 1 => fun v1 v2 v3 st => f_X8_balances_L37b (f_X8_balances_L37 n) v1 v2 v3 st
def f_X8_balances_L12b (rec : Int32 → Int32 → twS → Option (Int32 × twS)) (v1 : Int32) (v2 : Int32) (st : twS) : Option (Int32 × twS) :=
  (if 12 ≤ v2 then
    f_X8_balances_L37 twN v1 0 0 st
  else
    (if twb v2 12 = true then rec (v1 + (st.2.1 1 v2.toNatClampNeg)) (v2 + 1) st else none))
def f_X8_balances_L12 : Nat → Int32 → Int32 → twS → Option (Int32 × twS)
  | 0 => fun _ _ _ => none
  | n + 1 => fun v1 v2 st => f_X8_balances_L12b (f_X8_balances_L12 n) v1 v2 st
def f_X8_balances (st : twS) : Option (Int32 × twS) :=
  f_X8_balances_L12 twN ((twI st 36 0).1 22) 0 (twI st 36 0)
def h_L_build (st : twS) (w : Nat → Int64) (v1 : Int32) (v2 : Int32) : Option (Int32 × (twS × (Nat → Int64))) :=
  (f_X7_build st v1 v2).bind fun z => match z with
    | .inl x => if x.1 = twX1 then some (1, (x.2, w)) else if x.1 = twX2 then some (2, (x.2, w)) else if x.1 = twX3 then some (3, (x.2, w)) else none
    | .inr u => some (0, (u, w))
def h_L_people (st : twS) (w : Nat → Int64) (v1 : Int32) (v2 : Int32) : Option (Int32 × (twS × (Nat → Int64))) :=
  (f_X7_people st v1 v2).bind fun z => match z with
    | .inl x => if x.1 = twX1 then some (1, (x.2, w)) else if x.1 = twX2 then some (2, (x.2, w)) else if x.1 = twX3 then some (3, (x.2, w)) else none
    | .inr u => some (0, (u.2, vp_updL w (0 : Int32).toNatClampNeg u.1.toInt64))
def h_L_wind (st : twS) (w : Nat → Int64) (v1 : Int32) : Option (Int32 × (twS × (Nat → Int64))) :=
  (f_X7_wind st v1).bind fun z => match z with
    | .inl x => if x.1 = twX2 then some (1, (x.2, w)) else none
    | .inr u => some (0, (u.2, vp_updL w (0 : Int32).toNatClampNeg u.1.toInt64))
def h_L_fire (st : twS) (w : Nat → Int64) (v1 : Int32) (v2 : Int32) : Option (Int32 × (twS × (Nat → Int64))) :=
  (f_X7_fire st v1 v2).bind fun z => match z with
    | .inl x => if x.1 = twX1 then some (1, (x.2, w)) else if x.1 = twX2 then some (2, (x.2, w)) else if x.1 = twX3 then some (3, (x.2, w)) else none
    | .inr u => some (0, (u, w))
def h_L_feed (st : twS) (w : Nat → Int64) (v1 : Int32) (v2 : Int32) : Option (Int32 × (twS × (Nat → Int64))) :=
  (f_X7_feed st v1 v2).bind fun z => match z with
    | .inl x => if x.1 = twX1 then some (1, (x.2, w)) else none
    | .inr u => if u.1 = 0 then some (0, (u.2, vp_updL w (0 : Int32).toNatClampNeg 0)) else some (0, (u.2, vp_updL w (0 : Int32).toNatClampNeg 1))
def h_L_failFan (st : twS) (w : Nat → Int64) (v1 : Int32) (v2 : Int32) : Option (Int32 × (twS × (Nat → Int64))) :=
  (f_X7_failFan st v1 v2).bind fun z => match z with
    | .inl x => if x.1 = twX1 then some (1, (x.2, w)) else none
    | .inr u => some (0, (u.2, vp_updL w (0 : Int32).toNatClampNeg u.1.toInt64))
def h_L_failDoor (st : twS) (w : Nat → Int64) (v1 : Int32) (v2 : Int32) : Option (Int32 × (twS × (Nat → Int64))) :=
  (f_X7_failDoor st v1 v2).bind fun z => match z with
    | .inl x => if x.1 = twX1 then some (1, (x.2, w)) else none
    | .inr u => if u.1 = 0 then some (0, (u.2, vp_updL w (0 : Int32).toNatClampNeg 0)) else some (0, (u.2, vp_updL w (0 : Int32).toNatClampNeg 1))
def h_L_failDetector (st : twS) (w : Nat → Int64) (v1 : Int32) (v2 : Int32) (v3 : Int32) : Option (Int32 × (twS × (Nat → Int64))) :=
  (f_X7_failDetector st v1 v2 v3).bind fun z => match z with
    | .inl x => if x.1 = twX1 then some (1, (x.2, w)) else none
    | .inr u => some (0, (u, w))
def h_L_act (st : twS) (w : Nat → Int64) (v1 : Int32) (v2 : Int32) (v3 : Int32) : Option (Int32 × (twS × (Nat → Int64))) :=
  (f_X7_act st v1 v2 v3).bind fun z => match z with
    | .inl x => if x.1 = twX2 then some (1, (x.2, w)) else if x.1 = twX3 then some (2, (x.2, w)) else none
    | .inr u => some (0, (u.2, vp_updL w (0 : Int32).toNatClampNeg u.1.toInt64))
def h_L_command (st : twS) (w : Nat → Int64) (v1 : Int32) (v2 : Int32) : Option (Int32 × (twS × (Nat → Int64))) :=
  (f_X7_command st v1 v2).bind fun z => match z with
    | .inl x => if x.1 = twX1 then some (1, (x.2, w)) else if x.1 = twX2 then some (2, (x.2, w)) else none
    | .inr u => some (0, (u.2, vp_updL w (0 : Int32).toNatClampNeg u.1.toInt64))
def h_L_step (st : twS) (w : Nat → Int64) (v1 : Int32) : Option (Int32 × (twS × (Nat → Int64))) :=
  (f_X7_step st v1).bind fun z => match z with
    | .inl x => if x.1 = twX2 then some (1, (x.2, w)) else none
    | .inr u => some (0, (u.2, vp_updL w (0 : Int32).toNatClampNeg u.1.toInt64))
def h_L_segment (st : twS) (w : Nat → Int64) (v1 : Int32) (v2 : Int32) : Option (Int32 × (twS × (Nat → Int64))) :=
  (f_X7_segment st v1 v2).bind fun z => match z with
    | .inl x => if x.1 = twX1 then some (1, (x.2, w)) else if x.1 = twX2 then some (2, (x.2, w)) else none
    | .inr u => some (0, (u.2, vp_updL w (0 : Int32).toNatClampNeg u.1.toInt64))
def h_L_fan (st : twS) (w : Nat → Int64) (v1 : Int32) : Option (Int32 × (twS × (Nat → Int64))) :=
  (f_X7_fan st v1).bind fun z => match z with
    | .inl x => if x.1 = twX1 then some (1, (x.2, w)) else none
    | .inr u => some (0, (u.2, vp_updL w (0 : Int32).toNatClampNeg u.1.toInt64))
def h_L_done (st : twS) (w : Nat → Int64) (v1 : Int32) : Option (Int32 × (twS × (Nat → Int64))) :=
  (f_X7_done st v1).bind fun z => match z with
    | .inl x => if x.1 = twX1 then some (1, (x.2, w)) else none
    | .inr u => some (0, (u.2, vp_updL w (0 : Int32).toNatClampNeg u.1.toInt64))
def h_L_person (st : twS) (w : Nat → Int64) (v1 : Int32) (v2 : Int32) : Option (Int32 × (twS × (Nat → Int64))) :=
  (f_X7_person st v1 v2).bind fun z => match z with
    | .inl x => if x.1 = twX1 then some (1, (x.2, w)) else if x.1 = twX2 then some (2, (x.2, w)) else none
    | .inr u => some (0, (u.2, vp_updL w (0 : Int32).toNatClampNeg u.1.toInt64))
def h_L_count (st : twS) (w : Nat → Int64) (v1 : Int32) : Option (Int32 × (twS × (Nat → Int64))) :=
  (f_X7_count st v1).bind fun z => match z with
    | .inl x => if x.1 = twX2 then some (1, (x.2, w)) else none
    | .inr u => some (0, (u.2, vp_updL w (0 : Int32).toNatClampNeg u.1.toInt64))
