def fL_cell (L : Nat) (xs : Nat → Int32) (p1 : Int32) : Option Int32 :=
  if Int32.ofNat L ≤ p1 then some (40503 * p1) else sg_g (decide (¬ p1 < 0) && decide (p1.toNatClampNeg < L)) (some (xs p1.toNatClampNeg))
def fL_pick (L : Nat) (xs : Nat → Int32) (p1 p2 : Int32) : Option Int32 :=
  sg_b (fL_cell L xs p1) (fun r => sg_g (decide (¬ p2 = 0)) (some (((r).toUInt32 >>> ((1 : Int32).toUInt32 &&& Int32.toUInt32 31)).toInt32 - ((r).toUInt32 >>> ((1 : Int32).toUInt32 &&& Int32.toUInt32 31)).toInt32 / p2 * p2)))
def fL_addSource (N : Nat) (u : sg_St) (p1 : Int32) : Option (Int32 × sg_St) :=
  sg_hc (fX5_addSource N u p1) (sg_hx [(1, ((-78) : Int32)), (0, ((-79) : Int32))]) (fun r => some (r))
def fL_addBus (N : Nat) (u : sg_St) (p1 p2 : Int32) : Option (Int32 × sg_St) :=
  sg_hc (fX5_addBus N u p1 p2) (sg_hx [(1, ((-78) : Int32)), (0, ((-79) : Int32))]) (fun r => some (r))
def fL_addLine (N : Nat) (u : sg_St) (p1 p2 p3 p4 : Int32) : Option (Int32 × sg_St) :=
  sg_hc (fX5_addLine N u p1 p2 p3 p4) (sg_hx [(5, ((-75) : Int32)), (1, ((-78) : Int32)), (0, ((-79) : Int32))]) (fun r => some (r))
def fL_setLoad (N : Nat) (u : sg_St) (p1 p2 : Int32) : Option (Int32 × sg_St) :=
  sg_hc (fX5_setLoad N u p1 p2) (sg_hx [(5, ((-75) : Int32)), (1, ((-78) : Int32)), (4, ((-76) : Int32)), (0, ((-79) : Int32))]) (fun r => some (r))
def fL_setRelay (N : Nat) (u : sg_St) (p1 p2 p3 p4 : Int32) : Option (Int32 × sg_St) :=
  sg_hc (fX5_setRelay N u p1 p2 p3 p4) (sg_hx [(5, ((-75) : Int32)), (1, ((-78) : Int32)), (4, ((-76) : Int32))]) (fun r => some (r))
def fL_close (N : Nat) (u : sg_St) (p1 : Int32) : Option (Int32 × sg_St) :=
  sg_hc (fX5_close N u p1) (sg_hx [(5, ((-75) : Int32))]) (fun r => some (r))
def fL_open (N : Nat) (u : sg_St) (p1 : Int32) : Option (Int32 × sg_St) :=
  sg_hc (fX5_open N u p1) (sg_hx [(5, ((-75) : Int32))]) (fun r => some (r))
def fL_canClose (N : Nat) (u : sg_St) (p1 : Int32) : Option (Int32 × sg_St) :=
  sg_hc (fX5_canClose N u p1) (sg_hx [(5, ((-75) : Int32))]) (fun r => some (r))
def fL_canOpen (N : Nat) (u : sg_St) (p1 : Int32) : Option (Int32 × sg_St) :=
  sg_hc (fX5_canOpen N u p1) (sg_hx [(5, ((-75) : Int32))]) (fun r => some (r))
def fL_fault (N : Nat) (u : sg_St) (p1 : Int32) : Option (Int32 × sg_St) :=
  sg_hc (fX5_fault N u p1) (sg_hx [(5, ((-75) : Int32)), (0, ((-79) : Int32))]) (fun r => some (r))
def fL_repair (N : Nat) (u : sg_St) (p1 : Int32) : Option (Int32 × sg_St) :=
  sg_hc (fX5_repair N u p1) (sg_hx [(5, ((-75) : Int32)), (0, ((-79) : Int32))]) (fun r => some (if r = 0 then 0 else 1))
def fL_reset (N : Nat) (u : sg_St) (p1 : Int32) : Option (Int32 × sg_St) :=
  sg_hc (fX5_reset N u p1) (sg_hx [(5, ((-75) : Int32)), (4, ((-76) : Int32)), (0, ((-79) : Int32))]) (fun r => some (r))
def fL_isSource (N : Nat) (u : sg_St) (p1 : Int32) : Option (Int32 × sg_St) :=
  sg_hc (fX5_isSource N u p1) (sg_hx [(5, ((-75) : Int32))]) (fun r => some (if r = 0 then 0 else 1))
def fL_loadOf (N : Nat) (u : sg_St) (p1 : Int32) : Option (Int32 × sg_St) :=
  sg_hc (fX5_loadOf N u p1) (sg_hx [(5, ((-75) : Int32))]) (fun r => some (r))
def fL_weight (N : Nat) (u : sg_St) (p1 : Int32) : Option (Int32 × sg_St) :=
  sg_hc (fX5_weight N u p1) (sg_hx [(5, ((-75) : Int32)), (4, ((-76) : Int32))]) (fun r => some (r))
def fL_isClosed (N : Nat) (u : sg_St) (p1 : Int32) : Option (Int32 × sg_St) :=
  sg_hc (fX5_isClosed N u p1) (sg_hx [(5, ((-75) : Int32))]) (fun r => some (if r = 0 then 0 else 1))
def fL_isLocked (N : Nat) (u : sg_St) (p1 : Int32) : Option (Int32 × sg_St) :=
  sg_hc (fX5_isLocked N u p1) (sg_hx [(5, ((-75) : Int32))]) (fun r => some (if r = 0 then 0 else 1))
def fL_hasFault (N : Nat) (u : sg_St) (p1 : Int32) : Option (Int32 × sg_St) :=
  sg_hc (fX5_hasFault N u p1) (sg_hx [(5, ((-75) : Int32))]) (fun r => some (if r = 0 then 0 else 1))
def fL_islandOf (N : Nat) (u : sg_St) (p1 : Int32) : Option (Int32 × sg_St) :=
  sg_hc (fX5_islandOf N u p1) (sg_hx [(5, ((-75) : Int32))]) (fun r => some (r))
def fL_islandByRounds (N : Nat) (u : sg_St) (p1 : Int32) : Option (Int32 × sg_St) :=
  sg_hc (fX5_islandByRounds N u p1) (sg_hx [(5, ((-75) : Int32))]) (fun r => some (r))
def fL_isLive (N : Nat) (u : sg_St) (p1 : Int32) : Option (Int32 × sg_St) :=
  sg_hc (fX5_isLive N u p1) (sg_hx [(5, ((-75) : Int32))]) (fun r => some (if r = 0 then 0 else 1))
def fL_sourceOf (N : Nat) (u : sg_St) (p1 : Int32) : Option (Int32 × sg_St) :=
  sg_hc (fX5_sourceOf N u p1) (sg_hx [(5, ((-75) : Int32)), (0, ((-79) : Int32))]) (fun r => some (r))
def fL_islandLoad (N : Nat) (u : sg_St) (p1 : Int32) : Option (Int32 × sg_St) :=
  sg_hc (fX5_islandLoad N u p1) (sg_hx [(5, ((-75) : Int32))]) (fun r => some (r))
def fL_current (N : Nat) (u : sg_St) (p1 : Int32) : Option (Int32 × sg_St) :=
  sg_hc (fX5_current N u p1) (sg_hx [(5, ((-75) : Int32))]) (fun r => some (r))
def fL_currentByCutting (N : Nat) (u : sg_St) (p1 : Int32) : Option (Int32 × sg_St) :=
  sg_hc (fX5_currentByCutting N u p1) (sg_hx [(5, ((-75) : Int32))]) (fun r => some (r))
def fL_distance (N : Nat) (u : sg_St) (p1 : Int32) : Option (Int32 × sg_St) :=
  sg_hc (fX5_distance N u p1) (sg_hx [(5, ((-75) : Int32)), (0, ((-79) : Int32))]) (fun r => some (r))
def fL_pathAt (N : Nat) (u : sg_St) (p1 p2 : Int32) : Option (Int32 × sg_St) :=
  sg_hc (fX5_pathAt N u p1 p2) (sg_hx [(5, ((-75) : Int32)), (0, ((-79) : Int32)), (2, ((-77) : Int32))]) (fun r => some (r))
def fL_faultCurrent (N : Nat) (u : sg_St) (p1 : Int32) : Option (Int32 × sg_St) :=
  sg_hc (fX5_faultCurrent N u p1) (sg_hx [(5, ((-75) : Int32)), (0, ((-79) : Int32))]) (fun r => some (r))
def fL_tripTime (N : Nat) (u : sg_St) (p1 p2 : Int32) : Option (Int32 × sg_St) :=
  sg_hc (fX5_tripTime N u p1 p2) (sg_hx [(5, ((-75) : Int32)), (1, ((-78) : Int32)), (4, ((-76) : Int32))]) (fun r => some (r))
def fL_wouldTrip (N : Nat) (u : sg_St) (p1 : Int32) : Option (Int32 × sg_St) :=
  sg_hc (fX5_wouldTrip N u p1) (sg_hx [(5, ((-75) : Int32))]) (fun r => some (r))
def fL_isSelective (N : Nat) (u : sg_St) (p1 : Int32) : Option (Int32 × sg_St) :=
  sg_hc (fX5_isSelective N u p1) (sg_hx [(5, ((-75) : Int32))]) (fun r => some (if r = 0 then 0 else 1))
def fL_margin (N : Nat) (u : sg_St) (p1 : Int32) : Option (Int32 × sg_St) :=
  sg_hc (fX5_margin N u p1) (sg_hx [(5, ((-75) : Int32)), (0, ((-79) : Int32)), (4, ((-76) : Int32))]) (fun r => some (r))
def fL_bestAt (N : Nat) (u : sg_St) (p1 : Int32) : Option (Int32 × sg_St) :=
  sg_hc (fX5_bestAt N u p1) (sg_hx [(2, ((-77) : Int32))]) (fun r => some (r))
def fL_valueByTrying (N : Nat) (u : sg_St) : Option (Int32 × sg_St) :=
  sg_hc (fX5_valueByTrying N u) (sg_hx [(4, ((-76) : Int32))]) (fun r => some (r))
def fL_sizeByTrying (N : Nat) (u : sg_St) : Option (Int32 × sg_St) :=
  sg_hc (fX5_sizeByTrying N u) (sg_hx [(4, ((-76) : Int32))]) (fun r => some (r))
def fL_liveShare (N : Nat) (u : sg_St) : Option (UInt32 × sg_St) :=
  sg_hc (fX5_liveShare N u) (sg_hx [(3, (3264479232 : UInt32))]) (fun r => some (r))
