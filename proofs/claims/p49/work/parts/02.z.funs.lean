def fJ6_bitCount_0f7a4 (N : Nat) (p0 : Int32) : Option Int32 :=
  sg_l (p0 - ((((p0).toUInt32 >>> ((1 : Int32).toUInt32 &&& Int32.toUInt32 31)).toInt32) &&& 1431655765)) (fun x1 => sg_l ((x1 &&& 858993459) + ((((x1).toUInt32 >>> ((2 : Int32).toUInt32 &&& Int32.toUInt32 31)).toInt32) &&& 858993459)) (fun x2 => sg_l ((x2 + (((x2).toUInt32 >>> ((4 : Int32).toUInt32 &&& Int32.toUInt32 31)).toInt32)) &&& 252645135) (fun x3 => sg_l ((x3 + (((x3).toUInt32 >>> ((8 : Int32).toUInt32 &&& Int32.toUInt32 31)).toInt32)) + (((x3 + (((x3).toUInt32 >>> ((8 : Int32).toUInt32 &&& Int32.toUInt32 31)).toInt32)).toUInt32 >>> ((16 : Int32).toUInt32 &&& Int32.toUInt32 31)).toInt32)) (fun x4 => some (x4 &&& 63)))))
def fX5_has (N : Nat) (p0 p1 : Int32) : Option Int32 :=
  (if ((p0 >>> (p1 &&& 31)) &&& 1) = 0 then some 0 else some 1)
def fX1_loadAt_j21 (N : Nat) (u : sg_St) : Option (Int32) :=
  some 0
def fX1_loadAt (N : Nat) (u : sg_St) (p1 : Int32) : Option Int32 :=
  (if p1 < 0 then fX1_loadAt_j21 N u else (if (u 0 0) ≤ p1 then fX1_loadAt_j21 N u else sg_g (sg_inb p1 10) (some (u 12 (p1).toNatClampNeg))))
def fX1_acrossFrom (N : Nat) (u : sg_St) (p1 p2 : Int32) : Option Int32 :=
  (if p2 < 0 then some ((-1)) else (if p2 < (u 1 0) then sg_g (sg_inb p2 12) ((if (u 14 (p2).toNatClampNeg) = p1 then sg_g (sg_inb p2 12) (some (u 15 (p2).toNatClampNeg)) else sg_g (sg_inb p2 12) ((if (u 15 (p2).toNatClampNeg) = p1 then sg_g (sg_inb p2 12) (some (u 14 (p2).toNatClampNeg)) else some ((-1)))))) else some ((-1))))
def fX0_drawAt_j58 (N : Nat) (rc : sg_St → Int32 → Int32 → Int32 → Int32 → Option (Int32 × sg_St)) (u : sg_St) (v1 v2 v3 v4 v5 v6 k0 : Int32) : Option ((sg_St × Int32 × Int32) ⊕ (sg_St × Int32)) :=
  (if k0 = ((-1)) then some (.inl (u, v5, v6 + 1)) else sg_b2 (rc u k0 v6 v3 (v4 + 1)) (fun r2 u3 => sg_g (sg_inb v6 12) (sg_g (sg_inb v6 12) (some (.inl (sg_set u3 17 (v6).toNatClampNeg r2, v5 + ((sg_set u3 17 (v6).toNatClampNeg r2) 17 (v6).toNatClampNeg), v6 + 1))))))
def fX0_drawAt_L22 (N : Nat) (rc : sg_St → Int32 → Int32 → Int32 → Int32 → Option (Int32 × sg_St)) (u : sg_St) (v1 v2 v3 v4 v5 v6 : Int32) : Option ((sg_St × Int32 × Int32) ⊕ (sg_St × Int32)) :=
  (if 12 ≤ v6 then some (.inr (u, v5)) else (if v6 = v2 then fX0_drawAt_j58 N rc u v1 v2 v3 v4 v5 v6 ((-1)) else sg_b (fX5_has N v3 v6) (fun r2 => (if r2 = 0 then fX0_drawAt_j58 N rc u v1 v2 v3 v4 v5 v6 ((-1)) else sg_b (fX1_acrossFrom N u v1 v6) (fun r5 => fX0_drawAt_j58 N rc u v1 v2 v3 v4 v5 v6 r5)))))
def fX0_drawAt_B (N : Nat) (rc : sg_St → Int32 → Int32 → Int32 → Int32 → Option (Int32 × sg_St)) (u : sg_St) (p1 p2 p3 p4 : Int32) : Option (Int32 × sg_St) :=
  (if p4 < 10 then sg_b (fX1_loadAt N u p1) (fun r2 => sg_b (sg_it (fun x => fX0_drawAt_L22 N rc x.1 p1 p2 p3 p4 x.2.1 x.2.2) N (u, r2, 0)) (fun e4 => some (e4.2, e4.1))) else some (0, u))
def fX0_drawAt (N d : Nat) : sg_St → Int32 → Int32 → Int32 → Int32 → Option (Int32 × sg_St) := sg_rec (fX0_drawAt_B N) (fun _ _ _ _ _  => none) d
def fX0_measure_L2 (N : Nat) (u : sg_St) (v1 v2 : Int32) : Option ((sg_St × Int32) ⊕ (sg_St)) :=
  (if 12 ≤ v2 then some (.inr u) else sg_g (sg_inb v2 12) (some (.inl (sg_set u 17 (v2).toNatClampNeg 0, v2 + 1))))
def fX0_measure_L23 (N : Nat) (u : sg_St) (v1 v2 : Int32) : Option ((sg_St × Int32) ⊕ (sg_St)) :=
  (if (u 0 0) ≤ v2 then some (.inr u) else sg_b (fX5_has N (u 2 0) v2) (fun r2 => (if r2 = 0 then some (.inl (u, v2 + 1)) else sg_b2 (fX0_drawAt N 13 u v2 ((-1)) v1 0) (fun r5 u6 => some (.inl (u6, v2 + 1))))))
def fX0_measure (N : Nat) (u : sg_St) (p1 : Int32) : Option sg_St :=
  sg_b (sg_it (fun x => fX0_measure_L2 N x.1 p1 x.2) N (u, 0)) (fun e1 => sg_b (sg_it (fun x => fX0_measure_L23 N x.1 p1 x.2) N (e1, 0)) (fun e3 => some e3))
def fX1_isLine_j16 (N : Nat) (u : sg_St) : Option (Int32) :=
  some 0
def fX1_isLine (N : Nat) (u : sg_St) (p1 : Int32) : Option Int32 :=
  (if p1 < 0 then fX1_isLine_j16 N u else (if (u 1 0) ≤ p1 then fX1_isLine_j16 N u else some 1))
def fX0_currentIn (N : Nat) (u : sg_St) (p1 p2 : Int32) : Option (Int32 × sg_St) :=
  sg_b (fX0_measure N u p2) (fun u3 => sg_b (fX1_isLine N u3 p1) (fun r5 => (if r5 = 0 then some (0, u3) else sg_g (sg_inb p1 12) (some (u3 17 (p1).toNatClampNeg, u3)))))
def fX1_ratingAt (N : Nat) (u : sg_St) (p1 : Int32) : Option Int32 :=
  sg_b (fX1_isLine N u p1) (fun r2 => (if r2 = 0 then some 0 else sg_g (sg_inb p1 12) (some (u 16 (p1).toNatClampNeg))))
def fX0_firstOverloaded_L7 (N : Nat) (u : sg_St) (v2 : Int32) : Option ((Int32) ⊕ ((Int32 × sg_St))) :=
  (if 12 ≤ v2 then some (.inr ((-1), u)) else sg_g (sg_inb v2 12) (sg_b (fX1_ratingAt N u v2) (fun r3 => (if (u 17 (v2).toNatClampNeg) ≤ r3 then some (.inl (v2 + 1)) else some (.inr (v2, u))))))
def fX0_firstOverloaded (N : Nat) (u : sg_St) (p1 : Int32) : Option (Int32 × sg_St) :=
  sg_b (fX0_measure N u p1) (fun u3 => sg_it (fun x => fX0_firstOverloaded_L7 N u3 x) N 0)
def fX0_follow_j94 (N : Nat) (rc : sg_St → Int32 → Int32 → Int32 → Int32 → Int32 → Option (Int32 × sg_St)) (u : sg_St) (v1 v2 v3 v4 v5 v6 k0 : Int32) : Option ((sg_St × Int32) ⊕ ((Int32 × sg_St))) :=
  (if k0 ≤ 0 then some (.inl (u, v6 + 1)) else some (.inr (k0, u)))
def fX0_follow_j49 (N : Nat) (rc : sg_St → Int32 → Int32 → Int32 → Int32 → Int32 → Option (Int32 × sg_St)) (u : sg_St) (v1 v2 v3 v4 v5 v6 k0 : Int32) : Option ((sg_St × Int32) ⊕ ((Int32 × sg_St))) :=
  (if k0 = ((-1)) then some (.inl (u, v6 + 1)) else sg_g (sg_inb v5 10) ((if v6 = v3 then fX0_follow_j94 N rc (sg_set u 18 (v5).toNatClampNeg v6) v1 v2 v3 v4 v5 v6 (v5 + 1) else sg_b2 (rc (sg_set u 18 (v5).toNatClampNeg v6) k0 v6 v3 v4 (v5 + 1)) (fun r3 u4 => fX0_follow_j94 N rc u4 v1 v2 v3 v4 v5 v6 r3))))
def fX0_follow_L12 (N : Nat) (rc : sg_St → Int32 → Int32 → Int32 → Int32 → Int32 → Option (Int32 × sg_St)) (u : sg_St) (v1 v2 v3 v4 v5 v6 : Int32) : Option ((sg_St × Int32) ⊕ ((Int32 × sg_St))) :=
  (if 12 ≤ v6 then some (.inr (0, u)) else (if v6 = v2 then fX0_follow_j49 N rc u v1 v2 v3 v4 v5 v6 ((-1)) else sg_b (fX5_has N v4 v6) (fun r2 => (if r2 = 0 then fX0_follow_j49 N rc u v1 v2 v3 v4 v5 v6 ((-1)) else sg_b (fX1_acrossFrom N u v1 v6) (fun r5 => fX0_follow_j49 N rc u v1 v2 v3 v4 v5 v6 r5)))))
def fX0_follow_B (N : Nat) (rc : sg_St → Int32 → Int32 → Int32 → Int32 → Int32 → Option (Int32 × sg_St)) (u : sg_St) (p1 p2 p3 p4 p5 : Int32) : Option (Int32 × sg_St) :=
  (if p5 < 10 then sg_it (fun x => fX0_follow_L12 N rc x.1 p1 p2 p3 p4 p5 x.2) N (u, 0) else some (0, u))
def fX0_follow (N d : Nat) : sg_St → Int32 → Int32 → Int32 → Int32 → Int32 → Option (Int32 × sg_St) := sg_rec (fX0_follow_B N) (fun _ _ _ _ _ _  => none) d
def fX0_layPath_L5 (N : Nat) (u : sg_St) (v1 v2 v3 v4 : Int32) : Option ((sg_St × Int32 × Int32) ⊕ (sg_St × Int32)) :=
  (if (u 0 0) ≤ v4 then some (.inr (u, v3)) else (if v3 = 0 then sg_b (fX5_has N (u 2 0) v4) (fun r2 => (if r2 = 0 then some (.inl (u, v3, v4 + 1)) else sg_b2 (fX0_follow N 13 u v4 ((-1)) v1 v2 0) (fun r5 u6 => some (.inl (u6, r5, v4 + 1))))) else some (.inr (u, v3))))
def fX0_layPath (N : Nat) (u : sg_St) (p1 p2 : Int32) : Option (Int32 × sg_St) :=
  sg_b (sg_it (fun x => fX0_layPath_L5 N x.1 p1 p2 x.2.1 x.2.2) N (u, 0, 0)) (fun e1 => some (e1.2, e1.1))
def fX0_lineOnPath_j19 (N : Nat) (u : sg_St) : Option (Int32) :=
  some ((-1))
def fX0_lineOnPath (N : Nat) (u : sg_St) (p1 : Int32) : Option Int32 :=
  (if p1 < 0 then fX0_lineOnPath_j19 N u else (if 10 ≤ p1 then fX0_lineOnPath_j19 N u else sg_g (sg_inb p1 10) (some (u 18 (p1).toNatClampNeg))))
def fX0_sumOfCurrents_L9 (N : Nat) (u : sg_St) (v2 v3 : Int32) : Option ((Int32 × Int32) ⊕ (Int32)) :=
  (if 12 ≤ v3 then some (.inr v2) else sg_g (sg_inb v3 12) (some (.inl (v2 + (u 17 (v3).toNatClampNeg), v3 + 1))))
def fX0_sumOfCurrents (N : Nat) (u : sg_St) (p1 : Int32) : Option (Int32 × sg_St) :=
  sg_b (fX0_measure N u p1) (fun u3 => sg_b (sg_it (fun x => fX0_sumOfCurrents_L9 N u3 x.1 x.2) N (0, 0)) (fun e4 => some (e4, u3)))
def fX5_bit (N : Nat) (p0 : Int32) : Option Int32 :=
  some ((1 : Int32) <<< (p0 &&& 31))
def fX1_addLineBetween_j58 (N : Nat) (u : sg_St) (v5 : Int32) : Option ((Int32 × sg_St)) :=
  some (v5, sg_set u 1 0 (v5 + 1))
def fX1_addLineBetween (N : Nat) (u : sg_St) (p1 p2 p3 p4 : Int32) : Option (Int32 × sg_St) :=
  (if (u 1 0) < 12 then sg_g (sg_inb (u 1 0) 12) (sg_g (sg_inb (u 1 0) 12) (sg_g (sg_inb (u 1 0) 12) ((if p4 = 0 then fX1_addLineBetween_j58 N (sg_set (sg_set (sg_set u 14 (u 1 0).toNatClampNeg p1) 15 (u 1 0).toNatClampNeg p2) 16 (u 1 0).toNatClampNeg p3) (u 1 0) else sg_b (fX5_bit N (u 1 0)) (fun r5 => sg_l (((sg_set (sg_set (sg_set u 14 (u 1 0).toNatClampNeg p1) 15 (u 1 0).toNatClampNeg p2) 16 (u 1 0).toNatClampNeg p3) 3 0) ||| r5) (fun x7 => fX1_addLineBetween_j58 N (sg_set (sg_set (sg_set (sg_set u 14 (u 1 0).toNatClampNeg p1) 15 (u 1 0).toNatClampNeg p2) 16 (u 1 0).toNatClampNeg p3) 3 0 x7) (u 1 0))))))) else some ((-1), u))
def fX1_addNode_j57 (N : Nat) (u : sg_St) (v4 : Int32) : Option ((Int32 × sg_St)) :=
  some (v4, sg_set u 0 0 (v4 + 1))
def fX1_addNode (N : Nat) (u : sg_St) (p1 p2 p3 : Int32) : Option (Int32 × sg_St) :=
  (if (u 0 0) < 10 then sg_g (sg_inb (u 0 0) 10) (sg_g (sg_inb (u 0 0) 10) (sg_g (sg_inb (u 0 0) 10) ((if p1 ≤ 0 then fX1_addNode_j57 N (sg_set (sg_set (sg_set u 11 (u 0 0).toNatClampNeg p1) 12 (u 0 0).toNatClampNeg p2) 13 (u 0 0).toNatClampNeg p3) (u 0 0) else sg_b (fX5_bit N (u 0 0)) (fun r5 => sg_l (((sg_set (sg_set (sg_set u 11 (u 0 0).toNatClampNeg p1) 12 (u 0 0).toNatClampNeg p2) 13 (u 0 0).toNatClampNeg p3) 2 0) ||| r5) (fun x7 => fX1_addNode_j57 N (sg_set (sg_set (sg_set (sg_set u 11 (u 0 0).toNatClampNeg p1) 12 (u 0 0).toNatClampNeg p2) 13 (u 0 0).toNatClampNeg p3) 2 0 x7) (u 0 0))))))) else some ((-1), u))
def fX1_allNodes (N : Nat) (u : sg_St) : Option Int32 :=
  sg_b (fX5_bit N (u 0 0)) (fun r2 => some (r2 - 1))
def fX1_loadIn_L4 (N : Nat) (u : sg_St) (v1 v2 v3 : Int32) : Option ((Int32 × Int32) ⊕ (Int32)) :=
  (if (u 0 0) ≤ v3 then some (.inr v2) else sg_b (fX5_has N v1 v3) (fun r2 => (if r2 = 0 then some (.inl (v2, v3 + 1)) else sg_g (sg_inb v3 10) (some (.inl (v2 + (u 12 (v3).toNatClampNeg), v3 + 1))))))
def fX1_loadIn (N : Nat) (u : sg_St) (p1 : Int32) : Option Int32 :=
  sg_b (sg_it (fun x => fX1_loadIn_L4 N u p1 x.1 x.2) N (0, 0)) (fun e1 => some e1)
def fX5_memberAt_L4 (N : Nat) (v0 v1 v2 v3 : Int32) : Option ((Int32 × Int32) ⊕ (Int32)) :=
  (if 12 ≤ v3 then some (.inr ((-1))) else (if ((v0 >>> (v3 &&& 31)) &&& 1) = 0 then some (.inl (v2, v3 + 1)) else (if v2 = v1 then some (.inr v3) else some (.inl (v2 + 1, v3 + 1)))))
def fX5_memberAt (N : Nat) (p0 p1 : Int32) : Option Int32 :=
  sg_it (fun x => fX5_memberAt_L4 N p0 p1 x.1 x.2) N (0, 0)
def fX5_lowestIn (N : Nat) (p0 : Int32) : Option Int32 :=
  sg_b (fX5_memberAt N p0 0) (fun r2 => some r2)
def fX1_sourceIn (N : Nat) (u : sg_St) (p1 : Int32) : Option Int32 :=
  sg_b (fX5_lowestIn N (p1 &&& (u 2 0))) (fun r2 => some r2)
def fX1_isNode_j16 (N : Nat) (u : sg_St) : Option (Int32) :=
  some 0
def fX1_isNode (N : Nat) (u : sg_St) (p1 : Int32) : Option Int32 :=
  (if p1 < 0 then fX1_isNode_j16 N u else (if (u 0 0) ≤ p1 then fX1_isNode_j16 N u else some 1))
def fX1_capacityAt (N : Nat) (u : sg_St) (p1 : Int32) : Option Int32 :=
  sg_b (fX1_isNode N u p1) (fun r2 => (if r2 = 0 then some 0 else sg_g (sg_inb p1 10) (some (u 11 (p1).toNatClampNeg))))
def fX1_asksTooMuch (N : Nat) (u : sg_St) (p1 : Int32) : Option Int32 :=
  sg_b (fX1_loadIn N u p1) (fun r2 => sg_b (fX1_sourceIn N u p1) (fun r5 => sg_b (fX1_capacityAt N u r5) (fun r8 => (if r2 ≤ r8 then some 0 else some 1))))
def fX1_neighbours_j34 (N : Nat) (u : sg_St) (v1 v2 v3 v4 k0 : Int32) : Option ((Int32 × Int32) ⊕ (Int32)) :=
  (if k0 = ((-1)) then some (.inl (v3, v4 + 1)) else sg_b (fX5_bit N k0) (fun r2 => some (.inl (v3 ||| r2, v4 + 1))))
def fX1_neighbours_L5 (N : Nat) (u : sg_St) (v1 v2 v3 v4 : Int32) : Option ((Int32 × Int32) ⊕ (Int32)) :=
  (if (u 1 0) ≤ v4 then some (.inr v3) else sg_b (fX5_has N v2 v4) (fun r2 => (if r2 = 0 then fX1_neighbours_j34 N u v1 v2 v3 v4 ((-1)) else sg_b (fX1_acrossFrom N u v1 v4) (fun r5 => fX1_neighbours_j34 N u v1 v2 v3 v4 r5))))
def fX1_neighbours (N : Nat) (u : sg_St) (p1 p2 : Int32) : Option Int32 :=
  sg_b (sg_it (fun x => fX1_neighbours_L5 N u p1 p2 x.1 x.2) N (0, 0)) (fun e1 => some e1)
def fX1_islandAround_L11 (N : Nat) (u : sg_St) (v2 v3 v4 v5 : Int32) : Option ((Int32 × Int32 × Int32) ⊕ (Int32)) :=
  (if 10 ≤ v5 then some (.inr v3) else (if v4 = 0 then some (.inr v3) else sg_b (fX5_lowestIn N v4) (fun r2 => sg_b (fX1_neighbours N u r2 v2) (fun r5 => sg_b (fX5_bit N r2) (fun r8 => sg_l ((v4 &&& (r8 ^^^ ((-1)))) ||| (r5 &&& (v3 ^^^ ((-1))))) (fun x10 => some (.inl (v3 ||| (r5 &&& (v3 ^^^ ((-1)))), x10, v5 + 1))))))))
def fX1_islandAround (N : Nat) (u : sg_St) (p1 p2 : Int32) : Option Int32 :=
  sg_b (fX5_bit N p1) (fun r2 => sg_b (sg_it (fun x => fX1_islandAround_L11 N u p2 x.1 x.2.1 x.2.2) N (r2, r2, 0)) (fun e4 => some e4))
def fX1_islandGrownFrom_j75 (N : Nat) (u : sg_St) (v2 v3 v5 v6 v7 : Int32) : Option ((Int32 × Int32) ⊕ (Int32)) :=
  sg_g (sg_inb v7 12) (sg_b (fX5_bit N (u 14 (v7).toNatClampNeg)) (fun r3 => sg_g (sg_inb v7 12) (sg_b (fX5_bit N (u 15 (v7).toNatClampNeg)) (fun r7 => some (.inl (v3 ||| (r3 ||| r7), v7 + 1))))))
def fX1_islandGrownFrom_L29 (N : Nat) (u : sg_St) (v2 v5 v6 v3 v7 : Int32) : Option ((Int32 × Int32) ⊕ (Int32)) :=
  (if (u 1 0) ≤ v7 then some (.inr v3) else sg_b (fX5_has N v2 v7) (fun r2 => (if r2 = 0 then some (.inl (v3, v7 + 1)) else sg_g (sg_inb v7 12) (sg_b (fX5_has N v3 (u 14 (v7).toNatClampNeg)) (fun r6 => (if r6 = 0 then sg_g (sg_inb v7 12) (sg_b (fX5_has N v3 (u 15 (v7).toNatClampNeg)) (fun r10 => (if r10 = 0 then some (.inl (v3, v7 + 1)) else fX1_islandGrownFrom_j75 N u v2 v3 v5 v6 v7))) else fX1_islandGrownFrom_j75 N u v2 v3 v5 v6 v7))))))
def fX1_islandGrownFrom_j116 (N : Nat) (u : sg_St) (v2 v3 v5 k0 : Int32) : Option ((Int32 × Int32 × Int32) ⊕ (Int32)) :=
  some (.inl (v3, k0, v5 + 1))
def fX1_islandGrownFrom_L11 (N : Nat) (u : sg_St) (v2 v3 v4 v5 : Int32) : Option ((Int32 × Int32 × Int32) ⊕ (Int32)) :=
  (if 10 ≤ v5 then some (.inr v3) else (if v4 = 0 then some (.inr v3) else sg_b (sg_it (fun x => fX1_islandGrownFrom_L29 N u v2 v5 v3 x.1 x.2) N (v3, 0)) (fun e1 => (if e1 = v3 then fX1_islandGrownFrom_j116 N u v2 e1 v5 0 else fX1_islandGrownFrom_j116 N u v2 e1 v5 1))))
def fX1_islandGrownFrom (N : Nat) (u : sg_St) (p1 p2 : Int32) : Option Int32 :=
  sg_b (fX5_bit N p1) (fun r2 => sg_b (sg_it (fun x => fX1_islandGrownFrom_L11 N u p2 x.1 x.2.1 x.2.2) N (r2, 1, 0)) (fun e4 => some e4))
def fX1_linesAt_j51 (N : Nat) (u : sg_St) (v1 v2 v3 v4 : Int32) : Option ((Int32 × Int32) ⊕ (Int32)) :=
  sg_b (fX5_bit N v4) (fun r2 => some (.inl (v3 ||| r2, v4 + 1)))
def fX1_linesAt_L5 (N : Nat) (u : sg_St) (v1 v2 v3 v4 : Int32) : Option ((Int32 × Int32) ⊕ (Int32)) :=
  (if (u 1 0) ≤ v4 then some (.inr v3) else sg_b (fX5_has N v2 v4) (fun r2 => (if r2 = 0 then some (.inl (v3, v4 + 1)) else sg_g (sg_inb v4 12) (sg_b (fX5_has N v1 (u 14 (v4).toNatClampNeg)) (fun r6 => (if r6 = 0 then sg_g (sg_inb v4 12) (sg_b (fX5_has N v1 (u 15 (v4).toNatClampNeg)) (fun r10 => (if r10 = 0 then some (.inl (v3, v4 + 1)) else fX1_linesAt_j51 N u v1 v2 v3 v4))) else fX1_linesAt_j51 N u v1 v2 v3 v4))))))
def fX1_linesAt (N : Nat) (u : sg_St) (p1 p2 : Int32) : Option Int32 :=
  sg_b (sg_it (fun x => fX1_linesAt_L5 N u p1 p2 x.1 x.2) N (0, 0)) (fun e1 => some e1)
def fX1_liveWith_L4 (N : Nat) (u : sg_St) (v1 v2 v3 : Int32) : Option ((Int32 × Int32) ⊕ (Int32)) :=
  (if (u 0 0) ≤ v3 then some (.inr v2) else sg_b (fX5_has N (u 2 0) v3) (fun r2 => (if r2 = 0 then some (.inl (v2, v3 + 1)) else sg_b (fX1_islandAround N u v3 v1) (fun r5 => some (.inl (v2 ||| r5, v3 + 1))))))
def fX1_liveWith (N : Nat) (u : sg_St) (p1 : Int32) : Option Int32 :=
  sg_b (sg_it (fun x => fX1_liveWith_L4 N u p1 x.1 x.2) N (0, 0)) (fun e1 => some e1)
def fX1_oneEnd (N : Nat) (u : sg_St) (p1 : Int32) : Option Int32 :=
  sg_b (fX1_isLine N u p1) (fun r2 => (if r2 = 0 then some ((-1)) else sg_g (sg_inb p1 12) (some (u 14 (p1).toNatClampNeg))))
def fX1_sourceOfLine (N : Nat) (u : sg_St) (p1 p2 : Int32) : Option Int32 :=
  sg_b (fX1_oneEnd N u p1) (fun r2 => sg_b (fX1_islandAround N u r2 p2) (fun r5 => sg_b (fX1_sourceIn N u r5) (fun r8 => some r8)))
def fX1_loadCutOffBy_j71 (N : Nat) (u : sg_St) (v4 : Int32) : Option (Int32) :=
  sg_b (fX1_loadIn N u v4) (fun r2 => some r2)
def fX1_loadCutOffBy (N : Nat) (u : sg_St) (p1 p2 : Int32) : Option Int32 :=
  sg_b (fX5_has N p2 p1) (fun r2 => (if r2 = 0 then some 0 else sg_b (fX1_sourceOfLine N u p1 p2) (fun r5 => (if r5 = ((-1)) then some 0 else sg_b (fX1_oneEnd N u p1) (fun r8 => sg_b (fX5_bit N p1) (fun r11 => sg_b (fX1_islandAround N u r8 (p2 &&& (r11 ^^^ ((-1))))) (fun r14 => sg_b (fX1_sourceIn N u r14) (fun r17 => (if r17 = ((-1)) then fX1_loadCutOffBy_j71 N u r14 else sg_b (fX1_acrossFrom N u r8 p1) (fun r20 => sg_b (fX5_bit N p1) (fun r23 => sg_b (fX1_islandAround N u r20 (p2 &&& (r23 ^^^ ((-1))))) (fun r26 => fX1_loadCutOffBy_j71 N u r26))))))))))))
def fX1_putLoad (N : Nat) (u : sg_St) (p1 p2 : Int32) : Option sg_St :=
  sg_b (fX1_isNode N u p1) (fun r2 => (if r2 = 0 then some u else sg_g (sg_inb p1 10) (some (sg_set u 12 (p1).toNatClampNeg p2))))
def fX1_weightIn_L4 (N : Nat) (u : sg_St) (v1 v2 v3 : Int32) : Option ((Int32 × Int32) ⊕ (Int32)) :=
  (if (u 0 0) ≤ v3 then some (.inr v2) else sg_b (fX5_has N v1 v3) (fun r2 => (if r2 = 0 then some (.inl (v2, v3 + 1)) else sg_g (sg_inb v3 10) (sg_g (sg_inb v3 10) (some (.inl (v2 + ((u 12 (v3).toNatClampNeg) * (u 13 (v3).toNatClampNeg)), v3 + 1)))))))
def fX1_weightIn (N : Nat) (u : sg_St) (p1 : Int32) : Option Int32 :=
  sg_b (sg_it (fun x => fX1_weightIn_L4 N u p1 x.1 x.2) N (0, 0)) (fun e1 => some e1)
def fX4_closeReason_j210 (N : Nat) (u : sg_St) (v1 v2 v4 v5 v8 : Int32) : Option ((Int32 × sg_St)) :=
  (if v8 = 0 then some (110, u) else sg_b (fX1_asksTooMuch N u (v4 ||| v5)) (fun r2 => (if r2 = 0 then sg_b (fX5_bit N v1) (fun r5 => sg_b2 (fX0_firstOverloaded N u (v2 ||| r5)) (fun r8 u9 => (if r8 = ((-1)) then some (110, u9) else some (108, u9)))) else some (115, u))))
def fX4_closeReason_j181 (N : Nat) (u : sg_St) (v1 v2 v4 v5 v8 : Int32) : Option ((Int32 × sg_St)) :=
  sg_b (fX5_has N (u 3 0) v1) (fun r2 => (if r2 = 0 then sg_b (fX1_loadIn N u v8) (fun r5 => (if r5 ≤ 0 then fX4_closeReason_j210 N u v1 v2 v4 v5 v8 else some (100, u))) else fX4_closeReason_j210 N u v1 v2 v4 v5 v8))
def fX4_closeReason_j127 (N : Nat) (u : sg_St) (v1 v2 v4 v5 v6 v7 k0 : Int32) : Option ((Int32 × sg_St)) :=
  sg_b (fX5_has N (u 6 0) v1) (fun r2 => (if r2 = 0 then sg_b (fX1_linesAt N u k0 v2) (fun r5 => (if (r5 &&& (u 6 0)) = 0 then (if v4 = v5 then some (114, u) else (if v6 = 0 then fX4_closeReason_j181 N u v1 v2 v4 v5 k0 else (if v7 = 0 then fX4_closeReason_j181 N u v1 v2 v4 v5 k0 else some (114, u)))) else some (102, u))) else some (102, u)))
def fX4_closeReason_j102 (N : Nat) (u : sg_St) (v1 v2 v4 v5 v6 k0 : Int32) : Option ((Int32 × sg_St)) :=
  (if v6 = k0 then fX4_closeReason_j127 N u v1 v2 v4 v5 v6 k0 0 else (if v6 = 0 then fX4_closeReason_j127 N u v1 v2 v4 v5 v6 k0 v4 else fX4_closeReason_j127 N u v1 v2 v4 v5 v6 k0 v5))
def fX4_closeReason_j82 (N : Nat) (u : sg_St) (v1 v2 v4 v5 k0 : Int32) : Option ((Int32 × sg_St)) :=
  sg_b (fX1_sourceIn N u v5) (fun r2 => (if r2 = ((-1)) then fX4_closeReason_j102 N u v1 v2 v4 v5 k0 0 else fX4_closeReason_j102 N u v1 v2 v4 v5 k0 1))
def fX4_closeReason (N : Nat) (u : sg_St) (p1 p2 : Int32) : Option (Int32 × sg_St) :=
  sg_b (fX5_has N p2 p1) (fun r2 => (if r2 = 0 then sg_b (fX5_has N (u 5 0) p1) (fun r5 => (if r5 = 0 then sg_b (fX1_oneEnd N u p1) (fun r8 => sg_b (fX1_islandAround N u r8 p2) (fun r11 => sg_b (fX1_acrossFrom N u r8 p1) (fun r14 => sg_b (fX1_islandAround N u r14 p2) (fun r17 => sg_b (fX1_sourceIn N u r11) (fun r20 => (if r20 = ((-1)) then fX4_closeReason_j82 N u p1 p2 r11 r17 0 else fX4_closeReason_j82 N u p1 p2 r11 r17 1)))))) else some (111, u))) else some (99, u)))
def fX2_canBeClosedInOrder_L4 (N : Nat) (u : sg_St) (v1 v2 v3 : Int32) : Option ((sg_St × Int32 × Int32) ⊕ ((Int32 × sg_St))) :=
  (if 12 ≤ v3 then some (.inr (1, u)) else sg_b (fX5_has N v1 v3) (fun r2 => (if r2 = 0 then some (.inl (u, v2, v3 + 1)) else sg_b2 (fX4_closeReason N u v3 ((u 4 0) ||| v2)) (fun r5 u6 => (if r5 = 110 then sg_b (fX5_bit N v3) (fun r8 => some (.inl (u6, v2 ||| r8, v3 + 1))) else some (.inr (0, u6)))))))
def fX2_canBeClosedInOrder (N : Nat) (u : sg_St) (p1 : Int32) : Option (Int32 × sg_St) :=
  sg_it (fun x => fX2_canBeClosedInOrder_L4 N x.1 p1 x.2.1 x.2.2) N (u, 0, 0)
def fX2_valueOf (N : Nat) (u : sg_St) (p1 : Int32) : Option Int32 :=
  sg_b (fX1_liveWith N u ((u 4 0) ||| p1)) (fun r2 => sg_b (fX1_weightIn N u r2) (fun r5 => some r5))
def fX2_isBetter_j31 (N : Nat) (u : sg_St) : Option (Int32) :=
  some 0
def fX2_isBetter (N : Nat) (u : sg_St) (p1 p2 : Int32) : Option Int32 :=
  (if (u 9 0) < p1 then some 1 else (if p1 = (u 9 0) then sg_b (fJ6_bitCount_0f7a4 N (u 8 0)) (fun r2 => (if r2 ≤ p2 then fX2_isBetter_j31 N u else some 1)) else fX2_isBetter_j31 N u))
def fX2_keepIfBetter (N : Nat) (u : sg_St) (p1 p2 : Int32) : Option sg_St :=
  sg_b (fJ6_bitCount_0f7a4 N p1) (fun r2 => sg_b (fX2_isBetter N u p2 r2) (fun r5 => (if r5 = 0 then some u else some (sg_set (sg_set u 8 0 p1) 9 0 p2))))
def fX2_extend_L2 (N : Nat) (rc : sg_St → Int32 → Int32 → Option sg_St) (u : sg_St) (v1 v3 : Int32) : Option ((sg_St × Int32) ⊕ (sg_St)) :=
  (if 12 ≤ v3 then some (.inr u) else sg_b (fX5_has N (u 7 0) v3) (fun r2 => (if r2 = 0 then some (.inl (u, v3 + 1)) else sg_b (fX5_bit N v3) (fun r5 => sg_b (fX2_valueOf N u (v1 ||| ((u 7 0) &&& ((r5 - 1) ^^^ ((-1)))))) (fun r8 => sg_b (fJ6_bitCount_0f7a4 N v1) (fun r11 => sg_b (fX2_isBetter N u r8 (r11 + 1)) (fun r14 => (if r14 = 0 then some (.inr u) else sg_b2 (fX4_closeReason N u v3 ((u 4 0) ||| v1)) (fun r17 u18 => (if r17 = 110 then sg_b (fX5_bit N v3) (fun r20 => sg_b (fX2_valueOf N u18 (v1 ||| r20)) (fun r23 => sg_b (fX2_keepIfBetter N u18 (v1 ||| r20) r23) (fun u27 => sg_b (rc u27 (v1 ||| r20) (v3 + 1)) (fun u30 => some (.inl (u30, v3 + 1)))))) else some (.inl (u18, v3 + 1))))))))))))
def fX2_extend_B (N : Nat) (rc : sg_St → Int32 → Int32 → Option sg_St) (u : sg_St) (p1 p2 : Int32) : Option sg_St :=
  sg_it (fun x => fX2_extend_L2 N rc x.1 p1 x.2) N (u, p2)
def fX2_extend (N d : Nat) : sg_St → Int32 → Int32 → Option sg_St := sg_rec (fX2_extend_B N) (fun _ _ _  => none) d
def fX4_ofPlans (N : Nat) (u : sg_St) : Option Int32 :=
  some ((u 3 0) &&& ((((u 4 0) ||| (u 5 0)) ||| (u 6 0)) ^^^ ((-1))))
def fX2_startWithEmptyPlan (N : Nat) (u : sg_St) : Option sg_St :=
  sg_b (fX4_ofPlans N u ) (fun r2 => sg_b (fX2_valueOf N (sg_set (sg_set u 7 0 r2) 8 0 0) 0) (fun r5 => some (sg_set (sg_set (sg_set u 7 0 r2) 8 0 0) 9 0 r5)))
def fX2_findBest (N : Nat) (u : sg_St) : Option sg_St :=
  sg_b (fX2_startWithEmptyPlan N u ) (fun u3 => sg_b (fX2_extend N 15 u3 0 0) (fun u6 => some u6))
def fX2_tryAllSets_L6 (N : Nat) (u : sg_St) (v1 : Int32) : Option ((sg_St × Int32) ⊕ (sg_St)) :=
  (if 4096 ≤ v1 then some (.inr u) else (if (v1 &&& ((u 7 0) ^^^ ((-1)))) = 0 then sg_b2 (fX2_canBeClosedInOrder N u v1) (fun r2 u3 => (if r2 = 0 then some (.inl (u3, v1 + 1)) else sg_b (fX2_valueOf N u3 v1) (fun r5 => sg_b (fX2_keepIfBetter N u3 v1 r5) (fun u9 => some (.inl (u9, v1 + 1)))))) else some (.inl (u, v1 + 1))))
def fX2_tryAllSets (N : Nat) (u : sg_St) : Option sg_St :=
  sg_b (fX2_startWithEmptyPlan N u ) (fun u3 => sg_b (sg_it (fun x => fX2_tryAllSets_L6 N x.1 x.2) N (u3, 1)) (fun e4 => some e4))
def fX3_currentOfFault (N : Nat) (u : sg_St) (p1 p2 p3 : Int32) : Option Int32 :=
  sg_b (fX1_sourceOfLine N u p1 p3) (fun r2 => sg_b (fX1_capacityAt N u r2) (fun r5 => (if p2 ≤ 0 then some 0 else sg_g (decide (¬ p2 = 0)) (some ((r5 * 10) / p2)))))
def fX3_timeFor_j63 (N : Nat) (u : sg_St) (v1 v3 : Int32) : Option (Int32) :=
  sg_g (sg_inb v1 12) (sg_g (sg_inb v1 12) (sg_g (decide (¬ v3 = 0)) (some (((((u 20 (v1).toNatClampNeg) * (u 19 (v1).toNatClampNeg)) * 10) / v3) + 2))))
def fX3_timeFor (N : Nat) (u : sg_St) (p1 p2 : Int32) : Option Int32 :=
  sg_b (fX1_isLine N u p1) (fun r2 => (if r2 = 0 then some ((-1)) else sg_b (fX5_has N (u 3 0) p1) (fun r5 => (if r5 = 0 then some ((-1)) else sg_g (sg_inb p1 12) ((if 0 < (p2 - (u 19 (p1).toNatClampNeg)) then sg_g (sg_inb p1 12) ((if (u 21 (p1).toNatClampNeg) = 0 then fX3_timeFor_j63 N u p1 (p2 - (u 19 (p1).toNatClampNeg)) else sg_g (sg_inb p1 12) ((if p2 < (u 21 (p1).toNatClampNeg) then fX3_timeFor_j63 N u p1 (p2 - (u 19 (p1).toNatClampNeg)) else some 1)))) else some ((-1))))))))
def fX3_firstOnPath_j64 (N : Nat) (u : sg_St) (v1 v2 v3 v6 v7 v8 : Int32) : Option ((Int32 × Int32 × Int32) ⊕ (Int32)) :=
  some (.inl (v7, v8, v6 + 1))
def fX3_firstOnPath_j43 (N : Nat) (u : sg_St) (v1 v2 v3 v4 v5 v6 v7 k0 : Int32) : Option ((Int32 × Int32 × Int32) ⊕ (Int32)) :=
  (if k0 = ((-1)) then some (.inl (v4, v5, v6 + 1)) else (if v4 = ((-1)) then fX3_firstOnPath_j64 N u v1 v2 v3 v6 v7 k0 else (if v5 < k0 then some (.inl (v4, v5, v6 + 1)) else fX3_firstOnPath_j64 N u v1 v2 v3 v6 v7 k0)))
def fX3_firstOnPath_L9 (N : Nat) (u : sg_St) (v1 v2 v3 v4 v5 v6 : Int32) : Option ((Int32 × Int32 × Int32) ⊕ (Int32)) :=
  (if v1 ≤ v6 then some (.inr v4) else sg_b (fX0_lineOnPath N u v6) (fun r2 => (if r2 = v3 then fX3_firstOnPath_j43 N u v1 v2 v3 v4 v5 v6 r2 ((-1)) else sg_b (fX3_timeFor N u r2 v2) (fun r5 => fX3_firstOnPath_j43 N u v1 v2 v3 v4 v5 v6 r2 r5))))
def fX3_firstOnPath (N : Nat) (u : sg_St) (p1 p2 p3 : Int32) : Option Int32 :=
  sg_b (sg_it (fun x => fX3_firstOnPath_L9 N u p1 p2 p3 x.1 x.2.1 x.2.2) N ((-1), 0, 0)) (fun e1 => some e1)
def fX3_answerTo (N : Nat) (u : sg_St) (p1 p2 : Int32) : Option (Int32 × sg_St) :=
  sg_b2 (fX0_layPath N u p1 p2) (fun r2 u3 => (if r2 = 0 then some ((-1), u3) else sg_b (fX3_currentOfFault N u3 p1 r2 p2) (fun r5 => sg_b (fX3_firstOnPath N u3 r2 r5 ((-1))) (fun r8 => (if r8 = ((-1)) then some ((-2), u3) else some (r8, u3))))))
def fX3_leadOf (N : Nat) (u : sg_St) (p1 p2 : Int32) : Option (Int32 × sg_St) :=
  sg_b2 (fX0_layPath N u p1 p2) (fun r2 u3 => sg_b (fX3_currentOfFault N u3 p1 r2 p2) (fun r5 => sg_b (fX3_firstOnPath N u3 r2 r5 p1) (fun r8 => (if r8 = ((-1)) then some ((-1), u3) else sg_b (fX3_timeFor N u3 r8 r5) (fun r11 => sg_b (fX3_timeFor N u3 p1 r5) (fun r14 => some (r11 - r14, u3)))))))
def fX3_pickupAt (N : Nat) (u : sg_St) (p1 : Int32) : Option Int32 :=
  sg_b (fX1_isLine N u p1) (fun r2 => (if r2 = 0 then some 0 else sg_g (sg_inb p1 12) (some (u 19 (p1).toNatClampNeg))))
def fX3_setUp (N : Nat) (u : sg_St) (p1 p2 p3 p4 : Int32) : Option sg_St :=
  sg_b (fX1_isLine N u p1) (fun r2 => (if r2 = 0 then some u else sg_g (sg_inb p1 12) (sg_g (sg_inb p1 12) (sg_g (sg_inb p1 12) (some (sg_set (sg_set (sg_set u 19 (p1).toNatClampNeg p2) 20 (p1).toNatClampNeg p3) 21 (p1).toNatClampNeg p4))))))
def fX4_closeAll (N : Nat) (u : sg_St) (p1 : Int32) : Option sg_St :=
  some (sg_set u 4 0 ((u 4 0) ||| p1))
def fX4_keepLimits_L2 (N : Nat) (u : sg_St) (v1 : Int32) : Option ((Int32) ⊕ ((Int32 × sg_St))) :=
  (if (u 0 0) ≤ v1 then sg_b2 (fX0_firstOverloaded N u (u 4 0)) (fun r2 u3 => (if r2 = ((-1)) then some (.inr (1, u3)) else some (.inr (0, u3)))) else sg_b (fX5_has N (u 2 0) v1) (fun r6 => (if r6 = 0 then some (.inl (v1 + 1)) else sg_b (fX1_islandAround N u v1 (u 4 0)) (fun r9 => sg_b (fX1_asksTooMuch N u r9) (fun r12 => (if r12 = 0 then some (.inl (v1 + 1)) else some (.inr (0, u))))))))
def fX4_keepLimits (N : Nat) (u : sg_St) : Option (Int32 × sg_St) :=
  sg_it (fun x => fX4_keepLimits_L2 N u x) N 0
def fX4_lockOut (N : Nat) (u : sg_St) (p1 : Int32) : Option sg_St :=
  sg_l (((sg_set u 4 0 ((u 4 0) &&& (p1 ^^^ ((-1))))) 5 0) ||| p1) (fun x1 => some (sg_set (sg_set u 4 0 ((u 4 0) &&& (p1 ^^^ ((-1))))) 5 0 x1))
def fX4_openAll (N : Nat) (u : sg_St) (p1 : Int32) : Option sg_St :=
  some (sg_set u 4 0 ((u 4 0) &&& (p1 ^^^ ((-1)))))
def fX4_openReason (N : Nat) (u : sg_St) (p1 : Int32) : Option (Int32 × sg_St) :=
  sg_b (fX5_has N (u 4 0) p1) (fun r2 => (if r2 = 0 then some (99, u) else sg_b (fX5_has N (u 3 0) p1) (fun r5 => (if r5 = 0 then sg_b2 (fX0_currentIn N u p1 (u 4 0)) (fun r8 u9 => (if r8 = 0 then some (110, u9) else some (100, u9))) else some (110, u)))))
def fX5_needLoad_j10 (N : Nat) : Option (((Nat ⊕ Unit) × sg_St)) :=
  some (.inl 1, sg_u0)
def fX5_needLoad (N : Nat) (p0 : Int32) : Option ((Nat ⊕ Unit) × sg_St) :=
  (if p0 < 0 then fX5_needLoad_j10 N else (if p0 ≤ 99 then some (.inr (), sg_u0) else fX5_needLoad_j10 N))
def fX5_added (N : Nat) (p0 : Int32) : Option ((Nat ⊕ Int32) × sg_St) :=
  (if p0 = ((-1)) then some (.inl 0, sg_u0) else some (.inr p0, sg_u0))
def fX5_addBus_j14 (N : Nat) (u : sg_St) : Option (((Nat ⊕ Int32) × sg_St)) :=
  some (.inl 1, u)
def fX5_addBus (N : Nat) (u : sg_St) (p1 p2 : Int32) : Option ((Nat ⊕ Int32) × sg_St) :=
  sg_bt0 (fX5_needLoad N p1) u (fun _ => (if p2 < 0 then fX5_addBus_j14 N u else (if p2 ≤ 9 then sg_b2 (fX1_addNode N u 0 p1 p2) (fun r7 u8 => sg_bt0 (fX5_added N r7) u8 (fun r10 => some (.inr r10, u8))) else fX5_addBus_j14 N u)))
def fX5_needNode (N : Nat) (u : sg_St) (p1 : Int32) : Option ((Nat ⊕ Unit) × sg_St) :=
  sg_b (fX1_isNode N u p1) (fun r2 => (if r2 = 0 then some (.inl 5, u) else some (.inr (), u)))
def fX5_addLine_j37 (N : Nat) (u : sg_St) : Option (((Nat ⊕ Int32) × sg_St)) :=
  some (.inl 1, u)
def fX5_addLine (N : Nat) (u : sg_St) (p1 p2 p3 p4 : Int32) : Option ((Nat ⊕ Int32) × sg_St) :=
  sg_bt (fX5_needNode N u p1) (fun _ u3 => sg_bt (fX5_needNode N u3 p2) (fun _ u7 => (if p1 = p2 then some (.inl 1, u7) else (if p3 < 1 then fX5_addLine_j37 N u7 else (if p3 ≤ 999 then sg_b2 (fX1_addLineBetween N u7 p1 p2 p3 p4) (fun r10 u11 => sg_bt0 (fX5_added N r10) u11 (fun r13 => sg_b (fX3_setUp N u11 r13 p3 1 0) (fun u19 => some (.inr r13, u19)))) else fX5_addLine_j37 N u7)))))
def fX5_addSource_j12 (N : Nat) (u : sg_St) : Option (((Nat ⊕ Int32) × sg_St)) :=
  some (.inl 1, u)
def fX5_addSource (N : Nat) (u : sg_St) (p1 : Int32) : Option ((Nat ⊕ Int32) × sg_St) :=
  (if p1 < 1 then fX5_addSource_j12 N u else (if p1 ≤ 999 then sg_b2 (fX1_addNode N u p1 0 0) (fun r2 u3 => sg_bt0 (fX5_added N r2) u3 (fun r5 => some (.inr r5, u3))) else fX5_addSource_j12 N u))
def fX5_bestAt_j25 (N : Nat) (u : sg_St) : Option (((Nat ⊕ Int32) × sg_St)) :=
  some (.inl 2, u)
def fX5_bestAt (N : Nat) (u : sg_St) (p1 : Int32) : Option ((Nat ⊕ Int32) × sg_St) :=
  sg_b (fX2_findBest N u ) (fun u3 => (if p1 < 0 then fX5_bestAt_j25 N u3 else sg_b (fJ6_bitCount_0f7a4 N (u3 8 0)) (fun r5 => (if p1 < r5 then sg_b (fX5_memberAt N (u3 8 0) p1) (fun r8 => some (.inr r8, u3)) else fX5_bestAt_j25 N u3))))
def fX5_bestSize (N : Nat) (u : sg_St) : Option (Int32 × sg_St) :=
  sg_b (fX2_findBest N u ) (fun u3 => sg_b (fJ6_bitCount_0f7a4 N (u3 8 0)) (fun r5 => some (r5, u3)))
def fX5_bestValue (N : Nat) (u : sg_St) : Option (Int32 × sg_St) :=
  sg_b (fX2_findBest N u ) (fun u3 => some (u3 9 0, u3))
def fX5_needLine (N : Nat) (u : sg_St) (p1 : Int32) : Option ((Nat ⊕ Unit) × sg_St) :=
  sg_b (fX1_isLine N u p1) (fun r2 => (if r2 = 0 then some (.inl 5, u) else some (.inr (), u)))
def fX5_canClose (N : Nat) (u : sg_St) (p1 : Int32) : Option ((Nat ⊕ Int32) × sg_St) :=
  sg_bt (fX5_needLine N u p1) (fun _ u3 => sg_b2 (fX4_closeReason N u3 p1 (u3 4 0)) (fun r6 u7 => sg_g (decide (vp_nar .char r6 = r6)) (some (.inr r6, u7))))
def fX5_canOpen (N : Nat) (u : sg_St) (p1 : Int32) : Option ((Nat ⊕ Int32) × sg_St) :=
  sg_bt (fX5_needLine N u p1) (fun _ u3 => sg_b2 (fX4_openReason N u3 p1) (fun r6 u7 => sg_g (decide (vp_nar .char r6 = r6)) (some (.inr r6, u7))))
def fX5_close (N : Nat) (u : sg_St) (p1 : Int32) : Option ((Nat ⊕ Int32) × sg_St) :=
  sg_bt (fX5_needLine N u p1) (fun _ u3 => sg_b2 (fX4_closeReason N u3 p1 (u3 4 0)) (fun r6 u7 => (if r6 = 110 then sg_b (fX5_bit N p1) (fun r10 => sg_b (fX4_closeAll N u7 r10) (fun u14 => sg_g (decide (vp_nar .char r6 = r6)) (some (.inr r6, u14)))) else sg_g (decide (vp_nar .char r6 = r6)) (some (.inr r6, u7)))))
def fX5_current (N : Nat) (u : sg_St) (p1 : Int32) : Option ((Nat ⊕ Int32) × sg_St) :=
  sg_bt (fX5_needLine N u p1) (fun _ u3 => sg_b2 (fX0_currentIn N u3 p1 (u3 4 0)) (fun r6 u7 => some (.inr r6, u7)))
def fX5_currentByCutting (N : Nat) (u : sg_St) (p1 : Int32) : Option ((Nat ⊕ Int32) × sg_St) :=
  sg_bt (fX5_needLine N u p1) (fun _ u3 => sg_b (fX1_loadCutOffBy N u3 p1 (u3 4 0)) (fun r6 => some (.inr r6, u3)))
def fX5_liveNodes (N : Nat) (u : sg_St) : Option Int32 :=
  sg_b (fX1_liveWith N u (u 4 0)) (fun r2 => some r2)
def fX5_darkLoad (N : Nat) (u : sg_St) : Option Int32 :=
  sg_b (fX1_allNodes N u ) (fun r2 => sg_b (fX1_loadIn N u r2) (fun r5 => sg_b (fX5_liveNodes N u ) (fun r8 => sg_b (fX1_loadIn N u r8) (fun r11 => some (r5 - r11)))))
def fX5_lengthOfPathTo (N : Nat) (u : sg_St) (p1 : Int32) : Option ((Nat ⊕ Int32) × sg_St) :=
  sg_b2 (fX0_layPath N u p1 (u 4 0)) (fun r2 u3 => (if r2 = 0 then some (.inl 0, u3) else some (.inr r2, u3)))
def fX5_distance (N : Nat) (u : sg_St) (p1 : Int32) : Option ((Nat ⊕ Int32) × sg_St) :=
  sg_bt (fX5_needLine N u p1) (fun _ u3 => sg_bt (fX5_lengthOfPathTo N u3 p1) (fun r6 u7 => some (.inr r6, u7)))
def fX5_fault (N : Nat) (u : sg_St) (p1 : Int32) : Option ((Nat ⊕ Int32) × sg_St) :=
  sg_bt (fX5_needLine N u p1) (fun _ u3 => sg_b (fX5_has N (u3 6 0) p1) (fun r6 => (if r6 = 0 then sg_b2 (fX3_answerTo N u3 p1 (u3 4 0)) (fun r9 u10 => sg_b (fX5_bit N p1) (fun r12 => (if r9 = ((-2)) then sg_b (fX1_sourceOfLine N (sg_set u10 6 0 ((u10 6 0) ||| r12)) p1 ((sg_set u10 6 0 ((u10 6 0) ||| r12)) 4 0)) (fun r22 => sg_b (fX5_bit N r22) (fun r25 => sg_b (fX1_linesAt N (sg_set u10 6 0 ((u10 6 0) ||| r12)) r25 ((sg_set u10 6 0 ((u10 6 0) ||| r12)) 4 0)) (fun r28 => sg_b (fX4_lockOut N (sg_set u10 6 0 ((u10 6 0) ||| r12)) r28) (fun u32 => some (.inr r9, u32))))) else (if r9 = ((-1)) then some (.inr r9, sg_set u10 6 0 ((u10 6 0) ||| r12)) else sg_b (fX5_bit N r9) (fun r15 => sg_b (fX4_lockOut N (sg_set u10 6 0 ((u10 6 0) ||| r12)) r15) (fun u19 => some (.inr r9, sg_set u19 10 0 ((u19 10 0) + 1)))))))) else some (.inl 0, u3))))
def fX5_faultCurrent (N : Nat) (u : sg_St) (p1 : Int32) : Option ((Nat ⊕ Int32) × sg_St) :=
  sg_bt (fX5_needLine N u p1) (fun _ u3 => sg_bt (fX5_lengthOfPathTo N u3 p1) (fun r6 u7 => sg_b (fX3_currentOfFault N u7 p1 r6 (u7 4 0)) (fun r10 => some (.inr r10, u7))))
def fX5_hasFault (N : Nat) (u : sg_St) (p1 : Int32) : Option ((Nat ⊕ Int32) × sg_St) :=
  sg_bt (fX5_needLine N u p1) (fun _ u3 => sg_b (fX5_has N (u3 6 0) p1) (fun r6 => sg_g ((decide (r6 = 0) || decide (r6 = 1))) (some (.inr r6, u3))))
def fX5_isClosed (N : Nat) (u : sg_St) (p1 : Int32) : Option ((Nat ⊕ Int32) × sg_St) :=
  sg_bt (fX5_needLine N u p1) (fun _ u3 => sg_b (fX5_has N (u3 4 0) p1) (fun r6 => sg_g ((decide (r6 = 0) || decide (r6 = 1))) (some (.inr r6, u3))))
def fX5_islandAt (N : Nat) (u : sg_St) (p1 : Int32) : Option Int32 :=
  sg_b (fX1_islandAround N u p1 (u 4 0)) (fun r2 => some r2)
def fX5_isLive (N : Nat) (u : sg_St) (p1 : Int32) : Option ((Nat ⊕ Int32) × sg_St) :=
  sg_bt (fX5_needNode N u p1) (fun _ u3 => sg_b (fX5_islandAt N u3 p1) (fun r6 => sg_b (fX1_sourceIn N u3 r6) (fun r9 => (if r9 = ((-1)) then some (.inr 0, u3) else some (.inr 1, u3)))))
def fX5_isLocked (N : Nat) (u : sg_St) (p1 : Int32) : Option ((Nat ⊕ Int32) × sg_St) :=
  sg_bt (fX5_needLine N u p1) (fun _ u3 => sg_b (fX5_has N (u3 5 0) p1) (fun r6 => sg_g ((decide (r6 = 0) || decide (r6 = 1))) (some (.inr r6, u3))))
def fX5_isSelective (N : Nat) (u : sg_St) (p1 : Int32) : Option ((Nat ⊕ Int32) × sg_St) :=
  sg_bt (fX5_needLine N u p1) (fun _ u3 => sg_b2 (fX3_answerTo N u3 p1 (u3 4 0)) (fun r6 u7 => (if r6 = p1 then some (.inr 1, u7) else some (.inr 0, u7))))
def fX5_isSource (N : Nat) (u : sg_St) (p1 : Int32) : Option ((Nat ⊕ Int32) × sg_St) :=
  sg_bt (fX5_needNode N u p1) (fun _ u3 => sg_b (fX5_has N (u3 2 0) p1) (fun r6 => sg_g ((decide (r6 = 0) || decide (r6 = 1))) (some (.inr r6, u3))))
def fX5_islandByRounds (N : Nat) (u : sg_St) (p1 : Int32) : Option ((Nat ⊕ Int32) × sg_St) :=
  sg_bt (fX5_needNode N u p1) (fun _ u3 => sg_b (fX1_islandGrownFrom N u3 p1 (u3 4 0)) (fun r6 => sg_b (fX5_lowestIn N r6) (fun r9 => some (.inr r9, u3))))
def fX5_islandLoad (N : Nat) (u : sg_St) (p1 : Int32) : Option ((Nat ⊕ Int32) × sg_St) :=
  sg_bt (fX5_needNode N u p1) (fun _ u3 => sg_b (fX5_islandAt N u3 p1) (fun r6 => sg_b (fX1_loadIn N u3 r6) (fun r9 => some (.inr r9, u3))))
def fX5_islandOf (N : Nat) (u : sg_St) (p1 : Int32) : Option ((Nat ⊕ Int32) × sg_St) :=
  sg_bt (fX5_needNode N u p1) (fun _ u3 => sg_b (fX5_islandAt N u3 p1) (fun r6 => sg_b (fX5_lowestIn N r6) (fun r9 => some (.inr r9, u3))))
def fX5_islands_L4 (N : Nat) (u : sg_St) (v1 v2 : Int32) : Option ((Int32 × Int32) ⊕ (Int32)) :=
  (if (u 0 0) ≤ v2 then some (.inr v1) else sg_b (fX5_islandAt N u v2) (fun r2 => sg_b (fX5_lowestIn N r2) (fun r5 => (if r5 = v2 then some (.inl (v1 + 1, v2 + 1)) else some (.inl (v1, v2 + 1))))))
def fX5_islands (N : Nat) (u : sg_St) : Option Int32 :=
  sg_b (sg_it (fun x => fX5_islands_L4 N u x.1 x.2) N (0, 0)) (fun e1 => some e1)
def fX5_lines (N : Nat) (u : sg_St) : Option Int32 :=
  some (u 1 0)
def fX5_liveShare (N : Nat) (u : sg_St) : Option ((Nat ⊕ UInt32) × sg_St) :=
  sg_b (fX1_allNodes N u ) (fun r2 => sg_b (fX1_loadIn N u r2) (fun r5 => (if r5 = 0 then some (.inl 3, u) else sg_b (fX5_liveNodes N u ) (fun r8 => sg_b (fX1_loadIn N u r8) (fun r11 => sg_g (decide (FP.fdiv (FP.i2f r11) (FP.i2f r5) &&& 0x7fffffff ≤ 0x7f800000)) (some (.inr (FP.fdiv (FP.i2f r11) (FP.i2f r5)), u)))))))
def fX5_loadOf (N : Nat) (u : sg_St) (p1 : Int32) : Option ((Nat ⊕ Int32) × sg_St) :=
  sg_bt (fX5_needNode N u p1) (fun _ u3 => sg_b (fX1_loadAt N u3 p1) (fun r6 => some (.inr r6, u3)))
def fX5_margin (N : Nat) (u : sg_St) (p1 : Int32) : Option ((Nat ⊕ Int32) × sg_St) :=
  sg_bt (fX5_needLine N u p1) (fun _ u3 => sg_b2 (fX3_answerTo N u3 p1 (u3 4 0)) (fun r6 u7 => (if r6 = p1 then sg_b2 (fX3_leadOf N u7 p1 (u7 4 0)) (fun r9 u10 => (if r9 = ((-1)) then some (.inl 4, u10) else some (.inr r9, u10))) else some (.inl 0, u7))))
def fX5_meanCurrent (N : Nat) (u : sg_St) : Option ((Nat ⊕ UInt64) × sg_St) :=
  sg_b (fX5_liveNodes N u ) (fun r2 => sg_b (fX1_linesAt N u r2 (u 4 0)) (fun r5 => sg_b (fJ6_bitCount_0f7a4 N r5) (fun r8 => (if r8 = 0 then some (.inl 3, u) else sg_b2 (fX0_sumOfCurrents N u (u 4 0)) (fun r11 u12 => sg_g (decide (FP.ddiv (FP.i2d r11) (FP.i2d r8) &&& 0x7fffffffffffffff ≤ 0x7ff0000000000000)) (some (.inr (FP.ddiv (FP.i2d r11) (FP.i2d r8)), u12)))))))
def fX5_needBreaker (N : Nat) (u : sg_St) (p1 : Int32) : Option ((Nat ⊕ Unit) × sg_St) :=
  sg_b (fX5_has N (u 3 0) p1) (fun r2 => (if r2 = 0 then some (.inl 4, u) else some (.inr (), u)))
def fX5_needBus (N : Nat) (u : sg_St) (p1 : Int32) : Option ((Nat ⊕ Unit) × sg_St) :=
  sg_b (fX5_has N (u 2 0) p1) (fun r2 => (if r2 = 0 then some (.inr (), u) else some (.inl 4, u)))
def fX5_needFewLinesToTry (N : Nat) (u : sg_St) : Option ((Nat ⊕ Unit) × sg_St) :=
  sg_b (fX4_ofPlans N u ) (fun r2 => sg_b (fJ6_bitCount_0f7a4 N r2) (fun r5 => (if r5 ≤ 9 then some (.inr (), u) else some (.inl 4, u))))
def fX5_nodes (N : Nat) (u : sg_St) : Option Int32 :=
  some (u 0 0)
def fX5_open (N : Nat) (u : sg_St) (p1 : Int32) : Option ((Nat ⊕ Int32) × sg_St) :=
  sg_bt (fX5_needLine N u p1) (fun _ u3 => sg_b2 (fX4_openReason N u3 p1) (fun r6 u7 => (if r6 = 110 then sg_b (fX5_bit N p1) (fun r10 => sg_b (fX4_openAll N u7 r10) (fun u14 => sg_g (decide (vp_nar .char r6 = r6)) (some (.inr r6, u14)))) else sg_g (decide (vp_nar .char r6 = r6)) (some (.inr r6, u7)))))
def fX5_overloaded (N : Nat) (u : sg_St) (p1 : Int32) : Option ((Nat ⊕ Int32) × sg_St) :=
  sg_bt (fX5_needLine N u p1) (fun _ u3 => sg_b2 (fX4_closeReason N u3 p1 (u3 4 0)) (fun r6 u7 => (if r6 = 108 then sg_b (fX5_bit N p1) (fun r9 => sg_b2 (fX0_firstOverloaded N u7 ((u7 4 0) ||| r9)) (fun r12 u13 => some (.inr r12, u13))) else some (.inl 0, u7))))
def fX5_pathAt_j20 (N : Nat) (u : sg_St) : Option (((Nat ⊕ Int32) × sg_St)) :=
  some (.inl 2, u)
def fX5_pathAt (N : Nat) (u : sg_St) (p1 p2 : Int32) : Option ((Nat ⊕ Int32) × sg_St) :=
  sg_bt (fX5_needLine N u p1) (fun _ u3 => sg_bt (fX5_lengthOfPathTo N u3 p1) (fun r6 u7 => (if p2 < 0 then fX5_pathAt_j20 N u7 else (if p2 < r6 then sg_b (fX0_lineOnPath N u7 p2) (fun r10 => some (.inr r10, u7)) else fX5_pathAt_j20 N u7))))
def fX5_repair (N : Nat) (u : sg_St) (p1 : Int32) : Option ((Nat ⊕ Int32) × sg_St) :=
  sg_bt (fX5_needLine N u p1) (fun _ u3 => sg_b (fX5_has N (u3 6 0) p1) (fun r6 => (if r6 = 0 then some (.inl 0, u3) else sg_b (fX5_bit N p1) (fun r9 => sg_b (fX5_has N ((sg_set u3 6 0 ((u3 6 0) &&& (r9 ^^^ ((-1))))) 5 0) p1) (fun r12 => sg_g ((decide (r12 = 0) || decide (r12 = 1))) (some (.inr r12, sg_set u3 6 0 ((u3 6 0) &&& (r9 ^^^ ((-1)))))))))))
def fX5_reset (N : Nat) (u : sg_St) (p1 : Int32) : Option ((Nat ⊕ Int32) × sg_St) :=
  sg_bt (fX5_needLine N u p1) (fun _ u3 => sg_b (fX5_has N (u3 6 0) p1) (fun r6 => (if r6 = 0 then sg_b (fX5_has N (u3 5 0) p1) (fun r9 => (if r9 = 0 then some (.inl 0, u3) else sg_b (fX5_bit N p1) (fun r12 => sg_b (fJ6_bitCount_0f7a4 N ((sg_set u3 5 0 ((u3 5 0) &&& (r12 ^^^ ((-1))))) 5 0)) (fun r15 => some (.inr r15, sg_set u3 5 0 ((u3 5 0) &&& (r12 ^^^ ((-1))))))))) else some (.inl 4, u3))))
def fX5_restore (N : Nat) (u : sg_St) : Option (Int32 × sg_St) :=
  sg_b (fX2_findBest N u ) (fun u3 => sg_b (fX4_closeAll N u3 (u3 8 0)) (fun u6 => sg_b (fJ6_bitCount_0f7a4 N (u6 8 0)) (fun r8 => some (r8, u6))))
def fX5_setLoad (N : Nat) (u : sg_St) (p1 p2 : Int32) : Option ((Nat ⊕ Int32) × sg_St) :=
  sg_bt (fX5_needNode N u p1) (fun _ u3 => sg_bt0 (fX5_needLoad N p2) u3 (fun _ => sg_bt (fX5_needBus N u3 p1) (fun _ u12 => sg_b (fX1_loadAt N u12 p1) (fun r15 => sg_b (fX1_putLoad N u12 p1 p2) (fun u19 => sg_b2 (fX4_keepLimits N u19 ) (fun r21 u22 => (if r21 = 0 then sg_b (fX1_putLoad N u22 p1 r15) (fun u25 => some (.inl 0, u25)) else some (.inr r15, u22))))))))
def fX5_setRelay_j69 (N : Nat) (u : sg_St) (v1 v2 v3 v4 : Int32) : Option (((Nat ⊕ Int32) × sg_St)) :=
  sg_bt (fX5_needBreaker N u v1) (fun _ u3 => sg_b (fX3_pickupAt N u3 v1) (fun r6 => sg_b (fX3_setUp N u3 v1 v2 v3 v4) (fun u10 => some (.inr r6, u10))))
def fX5_setRelay_j38 (N : Nat) (u : sg_St) : Option (((Nat ⊕ Int32) × sg_St)) :=
  some (.inl 1, u)
def fX5_setRelay_j17 (N : Nat) (u : sg_St) : Option (((Nat ⊕ Int32) × sg_St)) :=
  some (.inl 1, u)
def fX5_setRelay (N : Nat) (u : sg_St) (p1 p2 p3 p4 : Int32) : Option ((Nat ⊕ Int32) × sg_St) :=
  sg_bt (fX5_needLine N u p1) (fun _ u3 => (if p2 < 1 then fX5_setRelay_j17 N u3 else (if p2 ≤ 999 then (if p3 < 1 then fX5_setRelay_j38 N u3 else (if p3 ≤ 10 then (if p4 = 0 then fX5_setRelay_j69 N u3 p1 p2 p3 p4 else (if p2 < p4 then fX5_setRelay_j69 N u3 p1 p2 p3 p4 else some (.inl 1, u3))) else fX5_setRelay_j38 N u3)) else fX5_setRelay_j17 N u3)))
def fX5_sizeByTrying (N : Nat) (u : sg_St) : Option ((Nat ⊕ Int32) × sg_St) :=
  sg_bt (fX5_needFewLinesToTry N u ) (fun _ u3 => sg_b (fX2_tryAllSets N u3 ) (fun u7 => sg_b (fJ6_bitCount_0f7a4 N (u7 8 0)) (fun r9 => some (.inr r9, u7))))
def fX5_sourceOf (N : Nat) (u : sg_St) (p1 : Int32) : Option ((Nat ⊕ Int32) × sg_St) :=
  sg_bt (fX5_needNode N u p1) (fun _ u3 => sg_b (fX5_islandAt N u3 p1) (fun r6 => sg_b (fX1_sourceIn N u3 r6) (fun r9 => (if r9 = ((-1)) then some (.inl 0, u3) else some (.inr r9, u3)))))
def fX5_tripTime_j16 (N : Nat) (u : sg_St) : Option (((Nat ⊕ Int32) × sg_St)) :=
  some (.inl 1, u)
def fX5_tripTime (N : Nat) (u : sg_St) (p1 p2 : Int32) : Option ((Nat ⊕ Int32) × sg_St) :=
  sg_bt (fX5_needLine N u p1) (fun _ u3 => (if p2 < 1 then fX5_tripTime_j16 N u3 else (if p2 ≤ 99999 then sg_bt (fX5_needBreaker N u3 p1) (fun _ u7 => sg_b (fX3_timeFor N u7 p1 p2) (fun r10 => some (.inr r10, u7))) else fX5_tripTime_j16 N u3)))
def fX5_trips (N : Nat) (u : sg_St) : Option Int32 :=
  some (u 10 0)
def fX5_valueByTrying (N : Nat) (u : sg_St) : Option ((Nat ⊕ Int32) × sg_St) :=
  sg_bt (fX5_needFewLinesToTry N u ) (fun _ u3 => sg_b (fX2_tryAllSets N u3 ) (fun u7 => some (.inr (u7 9 0), u7)))
def fX5_weight (N : Nat) (u : sg_St) (p1 : Int32) : Option ((Nat ⊕ Int32) × sg_St) :=
  sg_bt (fX5_needNode N u p1) (fun _ u3 => sg_bt (fX5_needBus N u3 p1) (fun _ u7 => sg_b (fX5_bit N p1) (fun r10 => sg_b (fX1_weightIn N u7 r10) (fun r13 => some (.inr r13, u7)))))
def fX5_wouldTrip (N : Nat) (u : sg_St) (p1 : Int32) : Option ((Nat ⊕ Int32) × sg_St) :=
  sg_bt (fX5_needLine N u p1) (fun _ u3 => sg_b2 (fX3_answerTo N u3 p1 (u3 4 0)) (fun r6 u7 => some (.inr r6, u7)))
def fX6_in_j14 (N : Nat) : Option (Int32) :=
  some 0
def fX6_in (N : Nat) (p0 p1 p2 : Int32) : Option Int32 :=
  (if p0 < p1 then fX6_in_j14 N else (if p2 < p0 then fX6_in_j14 N else some 1))
def fX6_fails (N : Nat) (u : sg_St) (p1 : Int32) : Option (Int32 × sg_St) :=
  some (0, sg_set u 0 0 p1)
def fX6_addBus_j20 (N : Nat) (u : sg_St) : Option ((Int32 × sg_St)) :=
  sg_b2 (fX6_fails N u 1) (fun r2 u3 => some (r2, u3))
def fX6_addBus (N : Nat) (u : sg_St) (p1 p2 : Int32) : Option (Int32 × sg_St) :=
  sg_b (fX6_in N p1 0 99) (fun r2 => (if r2 = 0 then fX6_addBus_j20 N u else sg_b (fX6_in N p2 0 9) (fun r5 => (if r5 = 0 then fX6_addBus_j20 N u else (if (u 1 0) = 10 then sg_b2 (fX6_fails N u 2) (fun r11 u12 => some (r11, u12)) else sg_g (sg_inb ((sg_set u 0 0 0) 1 0) 10) (sg_g (sg_inb ((sg_set (sg_set u 0 0 0) 10 ((sg_set u 0 0 0) 1 0).toNatClampNeg p1) 1 0) 10) (sg_l (((sg_set (sg_set (sg_set u 0 0 0) 10 ((sg_set u 0 0 0) 1 0).toNatClampNeg p1) 11 ((sg_set (sg_set u 0 0 0) 10 ((sg_set u 0 0 0) 1 0).toNatClampNeg p1) 1 0).toNatClampNeg p2) 1 0) + 1) (fun x9 => some (((sg_set (sg_set (sg_set (sg_set u 0 0 0) 10 ((sg_set u 0 0 0) 1 0).toNatClampNeg p1) 11 ((sg_set (sg_set u 0 0 0) 10 ((sg_set u 0 0 0) 1 0).toNatClampNeg p1) 1 0).toNatClampNeg p2) 1 0 x9) 1 0) - 1, sg_set (sg_set (sg_set (sg_set u 0 0 0) 10 ((sg_set u 0 0 0) 1 0).toNatClampNeg p1) 11 ((sg_set (sg_set u 0 0 0) 10 ((sg_set u 0 0 0) 1 0).toNatClampNeg p1) 1 0).toNatClampNeg p2) 1 0 x9)))))))))
def fX6_isNode (N : Nat) (u : sg_St) (p1 : Int32) : Option Int32 :=
  sg_b (fX6_in N p1 0 ((u 1 0) - 1)) (fun r2 => sg_g ((decide (r2 = 0) || decide (r2 = 1))) (some r2))
def fX6_addLine_j38 (N : Nat) (u : sg_St) : Option ((Int32 × sg_St)) :=
  sg_b2 (fX6_fails N u 2) (fun r2 u3 => some (r2, u3))
def fX6_addLine_j16 (N : Nat) (u : sg_St) : Option ((Int32 × sg_St)) :=
  sg_b2 (fX6_fails N u 1) (fun r2 u3 => some (r2, u3))
def fX6_addLine (N : Nat) (u : sg_St) (p1 p2 p3 p4 : Int32) : Option (Int32 × sg_St) :=
  sg_b (fX6_isNode N u p1) (fun r2 => (if r2 = 0 then fX6_addLine_j16 N u else sg_b (fX6_isNode N u p2) (fun r5 => (if r5 = 0 then fX6_addLine_j16 N u else (if p1 = p2 then fX6_addLine_j38 N u else sg_b (fX6_in N p3 1 999) (fun r8 => (if r8 = 0 then fX6_addLine_j38 N u else (if (u 2 0) = 12 then sg_b2 (fX6_fails N u 3) (fun r18 u19 => some (r18, u19)) else sg_g (sg_inb ((sg_set u 0 0 0) 2 0) 12) (sg_g (sg_inb ((sg_set (sg_set u 0 0 0) 12 ((sg_set u 0 0 0) 2 0).toNatClampNeg p1) 2 0) 12) (sg_g (sg_inb ((sg_set (sg_set (sg_set u 0 0 0) 12 ((sg_set u 0 0 0) 2 0).toNatClampNeg p1) 13 ((sg_set (sg_set u 0 0 0) 12 ((sg_set u 0 0 0) 2 0).toNatClampNeg p1) 2 0).toNatClampNeg p2) 2 0) 12) (sg_g (sg_inb ((sg_set (sg_set (sg_set (sg_set u 0 0 0) 12 ((sg_set u 0 0 0) 2 0).toNatClampNeg p1) 13 ((sg_set (sg_set u 0 0 0) 12 ((sg_set u 0 0 0) 2 0).toNatClampNeg p1) 2 0).toNatClampNeg p2) 14 ((sg_set (sg_set (sg_set u 0 0 0) 12 ((sg_set u 0 0 0) 2 0).toNatClampNeg p1) 13 ((sg_set (sg_set u 0 0 0) 12 ((sg_set u 0 0 0) 2 0).toNatClampNeg p1) 2 0).toNatClampNeg p2) 2 0).toNatClampNeg p3) 2 0) 12) (sg_g (sg_inb ((sg_set (sg_set (sg_set (sg_set (sg_set u 0 0 0) 12 ((sg_set u 0 0 0) 2 0).toNatClampNeg p1) 13 ((sg_set (sg_set u 0 0 0) 12 ((sg_set u 0 0 0) 2 0).toNatClampNeg p1) 2 0).toNatClampNeg p2) 14 ((sg_set (sg_set (sg_set u 0 0 0) 12 ((sg_set u 0 0 0) 2 0).toNatClampNeg p1) 13 ((sg_set (sg_set u 0 0 0) 12 ((sg_set u 0 0 0) 2 0).toNatClampNeg p1) 2 0).toNatClampNeg p2) 2 0).toNatClampNeg p3) 18 ((sg_set (sg_set (sg_set (sg_set u 0 0 0) 12 ((sg_set u 0 0 0) 2 0).toNatClampNeg p1) 13 ((sg_set (sg_set u 0 0 0) 12 ((sg_set u 0 0 0) 2 0).toNatClampNeg p1) 2 0).toNatClampNeg p2) 14 ((sg_set (sg_set (sg_set u 0 0 0) 12 ((sg_set u 0 0 0) 2 0).toNatClampNeg p1) 13 ((sg_set (sg_set u 0 0 0) 12 ((sg_set u 0 0 0) 2 0).toNatClampNeg p1) 2 0).toNatClampNeg p2) 2 0).toNatClampNeg p3) 2 0).toNatClampNeg (vp_nar .boolean p4)) 2 0) 12) (sg_g (sg_inb ((sg_set (sg_set (sg_set (sg_set (sg_set (sg_set u 0 0 0) 12 ((sg_set u 0 0 0) 2 0).toNatClampNeg p1) 13 ((sg_set (sg_set u 0 0 0) 12 ((sg_set u 0 0 0) 2 0).toNatClampNeg p1) 2 0).toNatClampNeg p2) 14 ((sg_set (sg_set (sg_set u 0 0 0) 12 ((sg_set u 0 0 0) 2 0).toNatClampNeg p1) 13 ((sg_set (sg_set u 0 0 0) 12 ((sg_set u 0 0 0) 2 0).toNatClampNeg p1) 2 0).toNatClampNeg p2) 2 0).toNatClampNeg p3) 18 ((sg_set (sg_set (sg_set (sg_set u 0 0 0) 12 ((sg_set u 0 0 0) 2 0).toNatClampNeg p1) 13 ((sg_set (sg_set u 0 0 0) 12 ((sg_set u 0 0 0) 2 0).toNatClampNeg p1) 2 0).toNatClampNeg p2) 14 ((sg_set (sg_set (sg_set u 0 0 0) 12 ((sg_set u 0 0 0) 2 0).toNatClampNeg p1) 13 ((sg_set (sg_set u 0 0 0) 12 ((sg_set u 0 0 0) 2 0).toNatClampNeg p1) 2 0).toNatClampNeg p2) 2 0).toNatClampNeg p3) 2 0).toNatClampNeg (vp_nar .boolean p4)) 15 ((sg_set (sg_set (sg_set (sg_set (sg_set u 0 0 0) 12 ((sg_set u 0 0 0) 2 0).toNatClampNeg p1) 13 ((sg_set (sg_set u 0 0 0) 12 ((sg_set u 0 0 0) 2 0).toNatClampNeg p1) 2 0).toNatClampNeg p2) 14 ((sg_set (sg_set (sg_set u 0 0 0) 12 ((sg_set u 0 0 0) 2 0).toNatClampNeg p1) 13 ((sg_set (sg_set u 0 0 0) 12 ((sg_set u 0 0 0) 2 0).toNatClampNeg p1) 2 0).toNatClampNeg p2) 2 0).toNatClampNeg p3) 18 ((sg_set (sg_set (sg_set (sg_set u 0 0 0) 12 ((sg_set u 0 0 0) 2 0).toNatClampNeg p1) 13 ((sg_set (sg_set u 0 0 0) 12 ((sg_set u 0 0 0) 2 0).toNatClampNeg p1) 2 0).toNatClampNeg p2) 14 ((sg_set (sg_set (sg_set u 0 0 0) 12 ((sg_set u 0 0 0) 2 0).toNatClampNeg p1) 13 ((sg_set (sg_set u 0 0 0) 12 ((sg_set u 0 0 0) 2 0).toNatClampNeg p1) 2 0).toNatClampNeg p2) 2 0).toNatClampNeg p3) 2 0).toNatClampNeg (vp_nar .boolean p4)) 2 0).toNatClampNeg p3) 2 0) 12) (sg_l (((sg_set (sg_set (sg_set (sg_set (sg_set (sg_set (sg_set u 0 0 0) 12 ((sg_set u 0 0 0) 2 0).toNatClampNeg p1) 13 ((sg_set (sg_set u 0 0 0) 12 ((sg_set u 0 0 0) 2 0).toNatClampNeg p1) 2 0).toNatClampNeg p2) 14 ((sg_set (sg_set (sg_set u 0 0 0) 12 ((sg_set u 0 0 0) 2 0).toNatClampNeg p1) 13 ((sg_set (sg_set u 0 0 0) 12 ((sg_set u 0 0 0) 2 0).toNatClampNeg p1) 2 0).toNatClampNeg p2) 2 0).toNatClampNeg p3) 18 ((sg_set (sg_set (sg_set (sg_set u 0 0 0) 12 ((sg_set u 0 0 0) 2 0).toNatClampNeg p1) 13 ((sg_set (sg_set u 0 0 0) 12 ((sg_set u 0 0 0) 2 0).toNatClampNeg p1) 2 0).toNatClampNeg p2) 14 ((sg_set (sg_set (sg_set u 0 0 0) 12 ((sg_set u 0 0 0) 2 0).toNatClampNeg p1) 13 ((sg_set (sg_set u 0 0 0) 12 ((sg_set u 0 0 0) 2 0).toNatClampNeg p1) 2 0).toNatClampNeg p2) 2 0).toNatClampNeg p3) 2 0).toNatClampNeg (vp_nar .boolean p4)) 15 ((sg_set (sg_set (sg_set (sg_set (sg_set u 0 0 0) 12 ((sg_set u 0 0 0) 2 0).toNatClampNeg p1) 13 ((sg_set (sg_set u 0 0 0) 12 ((sg_set u 0 0 0) 2 0).toNatClampNeg p1) 2 0).toNatClampNeg p2) 14 ((sg_set (sg_set (sg_set u 0 0 0) 12 ((sg_set u 0 0 0) 2 0).toNatClampNeg p1) 13 ((sg_set (sg_set u 0 0 0) 12 ((sg_set u 0 0 0) 2 0).toNatClampNeg p1) 2 0).toNatClampNeg p2) 2 0).toNatClampNeg p3) 18 ((sg_set (sg_set (sg_set (sg_set u 0 0 0) 12 ((sg_set u 0 0 0) 2 0).toNatClampNeg p1) 13 ((sg_set (sg_set u 0 0 0) 12 ((sg_set u 0 0 0) 2 0).toNatClampNeg p1) 2 0).toNatClampNeg p2) 14 ((sg_set (sg_set (sg_set u 0 0 0) 12 ((sg_set u 0 0 0) 2 0).toNatClampNeg p1) 13 ((sg_set (sg_set u 0 0 0) 12 ((sg_set u 0 0 0) 2 0).toNatClampNeg p1) 2 0).toNatClampNeg p2) 2 0).toNatClampNeg p3) 2 0).toNatClampNeg (vp_nar .boolean p4)) 2 0).toNatClampNeg p3) 16 ((sg_set (sg_set (sg_set (sg_set (sg_set (sg_set u 0 0 0) 12 ((sg_set u 0 0 0) 2 0).toNatClampNeg p1) 13 ((sg_set (sg_set u 0 0 0) 12 ((sg_set u 0 0 0) 2 0).toNatClampNeg p1) 2 0).toNatClampNeg p2) 14 ((sg_set (sg_set (sg_set u 0 0 0) 12 ((sg_set u 0 0 0) 2 0).toNatClampNeg p1) 13 ((sg_set (sg_set u 0 0 0) 12 ((sg_set u 0 0 0) 2 0).toNatClampNeg p1) 2 0).toNatClampNeg p2) 2 0).toNatClampNeg p3) 18 ((sg_set (sg_set (sg_set (sg_set u 0 0 0) 12 ((sg_set u 0 0 0) 2 0).toNatClampNeg p1) 13 ((sg_set (sg_set u 0 0 0) 12 ((sg_set u 0 0 0) 2 0).toNatClampNeg p1) 2 0).toNatClampNeg p2) 14 ((sg_set (sg_set (sg_set u 0 0 0) 12 ((sg_set u 0 0 0) 2 0).toNatClampNeg p1) 13 ((sg_set (sg_set u 0 0 0) 12 ((sg_set u 0 0 0) 2 0).toNatClampNeg p1) 2 0).toNatClampNeg p2) 2 0).toNatClampNeg p3) 2 0).toNatClampNeg (vp_nar .boolean p4)) 15 ((sg_set (sg_set (sg_set (sg_set (sg_set u 0 0 0) 12 ((sg_set u 0 0 0) 2 0).toNatClampNeg p1) 13 ((sg_set (sg_set u 0 0 0) 12 ((sg_set u 0 0 0) 2 0).toNatClampNeg p1) 2 0).toNatClampNeg p2) 14 ((sg_set (sg_set (sg_set u 0 0 0) 12 ((sg_set u 0 0 0) 2 0).toNatClampNeg p1) 13 ((sg_set (sg_set u 0 0 0) 12 ((sg_set u 0 0 0) 2 0).toNatClampNeg p1) 2 0).toNatClampNeg p2) 2 0).toNatClampNeg p3) 18 ((sg_set (sg_set (sg_set (sg_set u 0 0 0) 12 ((sg_set u 0 0 0) 2 0).toNatClampNeg p1) 13 ((sg_set (sg_set u 0 0 0) 12 ((sg_set u 0 0 0) 2 0).toNatClampNeg p1) 2 0).toNatClampNeg p2) 14 ((sg_set (sg_set (sg_set u 0 0 0) 12 ((sg_set u 0 0 0) 2 0).toNatClampNeg p1) 13 ((sg_set (sg_set u 0 0 0) 12 ((sg_set u 0 0 0) 2 0).toNatClampNeg p1) 2 0).toNatClampNeg p2) 2 0).toNatClampNeg p3) 2 0).toNatClampNeg (vp_nar .boolean p4)) 2 0).toNatClampNeg p3) 2 0).toNatClampNeg 1) 2 0) + 1) (fun x16 => some (((sg_set (sg_set (sg_set (sg_set (sg_set (sg_set (sg_set (sg_set u 0 0 0) 12 ((sg_set u 0 0 0) 2 0).toNatClampNeg p1) 13 ((sg_set (sg_set u 0 0 0) 12 ((sg_set u 0 0 0) 2 0).toNatClampNeg p1) 2 0).toNatClampNeg p2) 14 ((sg_set (sg_set (sg_set u 0 0 0) 12 ((sg_set u 0 0 0) 2 0).toNatClampNeg p1) 13 ((sg_set (sg_set u 0 0 0) 12 ((sg_set u 0 0 0) 2 0).toNatClampNeg p1) 2 0).toNatClampNeg p2) 2 0).toNatClampNeg p3) 18 ((sg_set (sg_set (sg_set (sg_set u 0 0 0) 12 ((sg_set u 0 0 0) 2 0).toNatClampNeg p1) 13 ((sg_set (sg_set u 0 0 0) 12 ((sg_set u 0 0 0) 2 0).toNatClampNeg p1) 2 0).toNatClampNeg p2) 14 ((sg_set (sg_set (sg_set u 0 0 0) 12 ((sg_set u 0 0 0) 2 0).toNatClampNeg p1) 13 ((sg_set (sg_set u 0 0 0) 12 ((sg_set u 0 0 0) 2 0).toNatClampNeg p1) 2 0).toNatClampNeg p2) 2 0).toNatClampNeg p3) 2 0).toNatClampNeg (vp_nar .boolean p4)) 15 ((sg_set (sg_set (sg_set (sg_set (sg_set u 0 0 0) 12 ((sg_set u 0 0 0) 2 0).toNatClampNeg p1) 13 ((sg_set (sg_set u 0 0 0) 12 ((sg_set u 0 0 0) 2 0).toNatClampNeg p1) 2 0).toNatClampNeg p2) 14 ((sg_set (sg_set (sg_set u 0 0 0) 12 ((sg_set u 0 0 0) 2 0).toNatClampNeg p1) 13 ((sg_set (sg_set u 0 0 0) 12 ((sg_set u 0 0 0) 2 0).toNatClampNeg p1) 2 0).toNatClampNeg p2) 2 0).toNatClampNeg p3) 18 ((sg_set (sg_set (sg_set (sg_set u 0 0 0) 12 ((sg_set u 0 0 0) 2 0).toNatClampNeg p1) 13 ((sg_set (sg_set u 0 0 0) 12 ((sg_set u 0 0 0) 2 0).toNatClampNeg p1) 2 0).toNatClampNeg p2) 14 ((sg_set (sg_set (sg_set u 0 0 0) 12 ((sg_set u 0 0 0) 2 0).toNatClampNeg p1) 13 ((sg_set (sg_set u 0 0 0) 12 ((sg_set u 0 0 0) 2 0).toNatClampNeg p1) 2 0).toNatClampNeg p2) 2 0).toNatClampNeg p3) 2 0).toNatClampNeg (vp_nar .boolean p4)) 2 0).toNatClampNeg p3) 16 ((sg_set (sg_set (sg_set (sg_set (sg_set (sg_set u 0 0 0) 12 ((sg_set u 0 0 0) 2 0).toNatClampNeg p1) 13 ((sg_set (sg_set u 0 0 0) 12 ((sg_set u 0 0 0) 2 0).toNatClampNeg p1) 2 0).toNatClampNeg p2) 14 ((sg_set (sg_set (sg_set u 0 0 0) 12 ((sg_set u 0 0 0) 2 0).toNatClampNeg p1) 13 ((sg_set (sg_set u 0 0 0) 12 ((sg_set u 0 0 0) 2 0).toNatClampNeg p1) 2 0).toNatClampNeg p2) 2 0).toNatClampNeg p3) 18 ((sg_set (sg_set (sg_set (sg_set u 0 0 0) 12 ((sg_set u 0 0 0) 2 0).toNatClampNeg p1) 13 ((sg_set (sg_set u 0 0 0) 12 ((sg_set u 0 0 0) 2 0).toNatClampNeg p1) 2 0).toNatClampNeg p2) 14 ((sg_set (sg_set (sg_set u 0 0 0) 12 ((sg_set u 0 0 0) 2 0).toNatClampNeg p1) 13 ((sg_set (sg_set u 0 0 0) 12 ((sg_set u 0 0 0) 2 0).toNatClampNeg p1) 2 0).toNatClampNeg p2) 2 0).toNatClampNeg p3) 2 0).toNatClampNeg (vp_nar .boolean p4)) 15 ((sg_set (sg_set (sg_set (sg_set (sg_set u 0 0 0) 12 ((sg_set u 0 0 0) 2 0).toNatClampNeg p1) 13 ((sg_set (sg_set u 0 0 0) 12 ((sg_set u 0 0 0) 2 0).toNatClampNeg p1) 2 0).toNatClampNeg p2) 14 ((sg_set (sg_set (sg_set u 0 0 0) 12 ((sg_set u 0 0 0) 2 0).toNatClampNeg p1) 13 ((sg_set (sg_set u 0 0 0) 12 ((sg_set u 0 0 0) 2 0).toNatClampNeg p1) 2 0).toNatClampNeg p2) 2 0).toNatClampNeg p3) 18 ((sg_set (sg_set (sg_set (sg_set u 0 0 0) 12 ((sg_set u 0 0 0) 2 0).toNatClampNeg p1) 13 ((sg_set (sg_set u 0 0 0) 12 ((sg_set u 0 0 0) 2 0).toNatClampNeg p1) 2 0).toNatClampNeg p2) 14 ((sg_set (sg_set (sg_set u 0 0 0) 12 ((sg_set u 0 0 0) 2 0).toNatClampNeg p1) 13 ((sg_set (sg_set u 0 0 0) 12 ((sg_set u 0 0 0) 2 0).toNatClampNeg p1) 2 0).toNatClampNeg p2) 2 0).toNatClampNeg p3) 2 0).toNatClampNeg (vp_nar .boolean p4)) 2 0).toNatClampNeg p3) 2 0).toNatClampNeg 1) 2 0 x16) 2 0) - 1, sg_set (sg_set (sg_set (sg_set (sg_set (sg_set (sg_set (sg_set u 0 0 0) 12 ((sg_set u 0 0 0) 2 0).toNatClampNeg p1) 13 ((sg_set (sg_set u 0 0 0) 12 ((sg_set u 0 0 0) 2 0).toNatClampNeg p1) 2 0).toNatClampNeg p2) 14 ((sg_set (sg_set (sg_set u 0 0 0) 12 ((sg_set u 0 0 0) 2 0).toNatClampNeg p1) 13 ((sg_set (sg_set u 0 0 0) 12 ((sg_set u 0 0 0) 2 0).toNatClampNeg p1) 2 0).toNatClampNeg p2) 2 0).toNatClampNeg p3) 18 ((sg_set (sg_set (sg_set (sg_set u 0 0 0) 12 ((sg_set u 0 0 0) 2 0).toNatClampNeg p1) 13 ((sg_set (sg_set u 0 0 0) 12 ((sg_set u 0 0 0) 2 0).toNatClampNeg p1) 2 0).toNatClampNeg p2) 14 ((sg_set (sg_set (sg_set u 0 0 0) 12 ((sg_set u 0 0 0) 2 0).toNatClampNeg p1) 13 ((sg_set (sg_set u 0 0 0) 12 ((sg_set u 0 0 0) 2 0).toNatClampNeg p1) 2 0).toNatClampNeg p2) 2 0).toNatClampNeg p3) 2 0).toNatClampNeg (vp_nar .boolean p4)) 15 ((sg_set (sg_set (sg_set (sg_set (sg_set u 0 0 0) 12 ((sg_set u 0 0 0) 2 0).toNatClampNeg p1) 13 ((sg_set (sg_set u 0 0 0) 12 ((sg_set u 0 0 0) 2 0).toNatClampNeg p1) 2 0).toNatClampNeg p2) 14 ((sg_set (sg_set (sg_set u 0 0 0) 12 ((sg_set u 0 0 0) 2 0).toNatClampNeg p1) 13 ((sg_set (sg_set u 0 0 0) 12 ((sg_set u 0 0 0) 2 0).toNatClampNeg p1) 2 0).toNatClampNeg p2) 2 0).toNatClampNeg p3) 18 ((sg_set (sg_set (sg_set (sg_set u 0 0 0) 12 ((sg_set u 0 0 0) 2 0).toNatClampNeg p1) 13 ((sg_set (sg_set u 0 0 0) 12 ((sg_set u 0 0 0) 2 0).toNatClampNeg p1) 2 0).toNatClampNeg p2) 14 ((sg_set (sg_set (sg_set u 0 0 0) 12 ((sg_set u 0 0 0) 2 0).toNatClampNeg p1) 13 ((sg_set (sg_set u 0 0 0) 12 ((sg_set u 0 0 0) 2 0).toNatClampNeg p1) 2 0).toNatClampNeg p2) 2 0).toNatClampNeg p3) 2 0).toNatClampNeg (vp_nar .boolean p4)) 2 0).toNatClampNeg p3) 16 ((sg_set (sg_set (sg_set (sg_set (sg_set (sg_set u 0 0 0) 12 ((sg_set u 0 0 0) 2 0).toNatClampNeg p1) 13 ((sg_set (sg_set u 0 0 0) 12 ((sg_set u 0 0 0) 2 0).toNatClampNeg p1) 2 0).toNatClampNeg p2) 14 ((sg_set (sg_set (sg_set u 0 0 0) 12 ((sg_set u 0 0 0) 2 0).toNatClampNeg p1) 13 ((sg_set (sg_set u 0 0 0) 12 ((sg_set u 0 0 0) 2 0).toNatClampNeg p1) 2 0).toNatClampNeg p2) 2 0).toNatClampNeg p3) 18 ((sg_set (sg_set (sg_set (sg_set u 0 0 0) 12 ((sg_set u 0 0 0) 2 0).toNatClampNeg p1) 13 ((sg_set (sg_set u 0 0 0) 12 ((sg_set u 0 0 0) 2 0).toNatClampNeg p1) 2 0).toNatClampNeg p2) 14 ((sg_set (sg_set (sg_set u 0 0 0) 12 ((sg_set u 0 0 0) 2 0).toNatClampNeg p1) 13 ((sg_set (sg_set u 0 0 0) 12 ((sg_set u 0 0 0) 2 0).toNatClampNeg p1) 2 0).toNatClampNeg p2) 2 0).toNatClampNeg p3) 2 0).toNatClampNeg (vp_nar .boolean p4)) 15 ((sg_set (sg_set (sg_set (sg_set (sg_set u 0 0 0) 12 ((sg_set u 0 0 0) 2 0).toNatClampNeg p1) 13 ((sg_set (sg_set u 0 0 0) 12 ((sg_set u 0 0 0) 2 0).toNatClampNeg p1) 2 0).toNatClampNeg p2) 14 ((sg_set (sg_set (sg_set u 0 0 0) 12 ((sg_set u 0 0 0) 2 0).toNatClampNeg p1) 13 ((sg_set (sg_set u 0 0 0) 12 ((sg_set u 0 0 0) 2 0).toNatClampNeg p1) 2 0).toNatClampNeg p2) 2 0).toNatClampNeg p3) 18 ((sg_set (sg_set (sg_set (sg_set u 0 0 0) 12 ((sg_set u 0 0 0) 2 0).toNatClampNeg p1) 13 ((sg_set (sg_set u 0 0 0) 12 ((sg_set u 0 0 0) 2 0).toNatClampNeg p1) 2 0).toNatClampNeg p2) 14 ((sg_set (sg_set (sg_set u 0 0 0) 12 ((sg_set u 0 0 0) 2 0).toNatClampNeg p1) 13 ((sg_set (sg_set u 0 0 0) 12 ((sg_set u 0 0 0) 2 0).toNatClampNeg p1) 2 0).toNatClampNeg p2) 2 0).toNatClampNeg p3) 2 0).toNatClampNeg (vp_nar .boolean p4)) 2 0).toNatClampNeg p3) 2 0).toNatClampNeg 1) 2 0 x16))))))))))))))))
def fX6_addSource (N : Nat) (u : sg_St) (p1 : Int32) : Option (Int32 × sg_St) :=
  sg_b (fX6_in N p1 1 999) (fun r2 => (if r2 = 0 then sg_b2 (fX6_fails N u 1) (fun r12 u13 => some (r12, u13)) else (if (u 1 0) = 10 then sg_b2 (fX6_fails N u 2) (fun r8 u9 => some (r8, u9)) else sg_g (sg_inb ((sg_set u 0 0 0) 1 0) 10) (sg_g (sg_inb ((sg_set (sg_set u 0 0 0) 8 ((sg_set u 0 0 0) 1 0).toNatClampNeg (vp_nar .boolean 1)) 1 0) 10) (sg_l (((sg_set (sg_set (sg_set u 0 0 0) 8 ((sg_set u 0 0 0) 1 0).toNatClampNeg (vp_nar .boolean 1)) 9 ((sg_set (sg_set u 0 0 0) 8 ((sg_set u 0 0 0) 1 0).toNatClampNeg (vp_nar .boolean 1)) 1 0).toNatClampNeg p1) 1 0) + 1) (fun x6 => some (((sg_set (sg_set (sg_set (sg_set u 0 0 0) 8 ((sg_set u 0 0 0) 1 0).toNatClampNeg (vp_nar .boolean 1)) 9 ((sg_set (sg_set u 0 0 0) 8 ((sg_set u 0 0 0) 1 0).toNatClampNeg (vp_nar .boolean 1)) 1 0).toNatClampNeg p1) 1 0 x6) 1 0) - 1, sg_set (sg_set (sg_set (sg_set u 0 0 0) 8 ((sg_set u 0 0 0) 1 0).toNatClampNeg (vp_nar .boolean 1)) 9 ((sg_set (sg_set u 0 0 0) 8 ((sg_set u 0 0 0) 1 0).toNatClampNeg (vp_nar .boolean 1)) 1 0).toNatClampNeg p1) 1 0 x6)))))))
def fX6_paints_L2 (N : Nat) (u : sg_St) (v1 v2 v3 : Int32) : Option ((sg_St × Int32) ⊕ (sg_St)) :=
  (if (u 1 0) ≤ v3 then some (.inr u) else sg_g (sg_inb v3 10) (some (.inl (sg_set u 22 (v3).toNatClampNeg v3, v3 + 1))))
def fX6_paints_j149 (N : Nat) (u : sg_St) (v1 v2 v4 k0 : Int32) : Option ((sg_St × Int32 × Int32) ⊕ (sg_St × Int32)) :=
  sg_g (sg_inb v4 12) (sg_g (sg_inb (u 12 (v4).toNatClampNeg) 10) (sg_g (sg_inb v4 12) (sg_g (sg_inb ((sg_set u 22 (u 12 (v4).toNatClampNeg).toNatClampNeg k0) 13 (v4).toNatClampNeg) 10) (some (.inl (sg_set (sg_set u 22 (u 12 (v4).toNatClampNeg).toNatClampNeg k0) 22 ((sg_set u 22 (u 12 (v4).toNatClampNeg).toNatClampNeg k0) 13 (v4).toNatClampNeg).toNatClampNeg k0, 1, v4 + 1))))))
def fX6_paints_j65 (N : Nat) (u : sg_St) (v1 v2 v3 v4 : Int32) : Option ((sg_St × Int32 × Int32) ⊕ (sg_St × Int32)) :=
  sg_g (sg_inb v4 12) (sg_g (sg_inb (u 12 (v4).toNatClampNeg) 10) (sg_g (sg_inb v4 12) (sg_g (sg_inb (u 13 (v4).toNatClampNeg) 10) ((if (u 22 (u 12 (v4).toNatClampNeg).toNatClampNeg) = (u 22 (u 13 (v4).toNatClampNeg).toNatClampNeg) then some (.inl (u, v3, v4 + 1)) else sg_g (sg_inb v4 12) (sg_g (sg_inb (u 12 (v4).toNatClampNeg) 10) (sg_g (sg_inb v4 12) (sg_g (sg_inb (u 13 (v4).toNatClampNeg) 10) ((if (u 22 (u 13 (v4).toNatClampNeg).toNatClampNeg) ≤ (u 22 (u 12 (v4).toNatClampNeg).toNatClampNeg) then sg_g (sg_inb v4 12) (sg_g (sg_inb (u 13 (v4).toNatClampNeg) 10) (fX6_paints_j149 N u v1 v2 v4 (u 22 (u 13 (v4).toNatClampNeg).toNatClampNeg))) else sg_g (sg_inb v4 12) (sg_g (sg_inb (u 12 (v4).toNatClampNeg) 10) (fX6_paints_j149 N u v1 v2 v4 (u 22 (u 12 (v4).toNatClampNeg).toNatClampNeg)))))))))))))
def fX6_paints_L34 (N : Nat) (u : sg_St) (v1 v2 v3 v4 : Int32) : Option ((sg_St × Int32 × Int32) ⊕ (sg_St × Int32)) :=
  (if (u 2 0) ≤ v4 then some (.inr (u, v3)) else (if v4 = v1 then some (.inl (u, v3, v4 + 1)) else sg_g (sg_inb v4 12) ((if (u 19 (v4).toNatClampNeg) = 0 then (if v4 = v2 then fX6_paints_j65 N u v1 v2 v3 v4 else some (.inl (u, v3, v4 + 1))) else fX6_paints_j65 N u v1 v2 v3 v4))))
def fX6_paints_L25 (N : Nat) (u : sg_St) (v1 v2 v3 : Int32) : Option ((sg_St × Int32) ⊕ (sg_St)) :=
  (if v3 = 0 then some (.inr u) else sg_b (sg_it (fun x => fX6_paints_L34 N x.1 v1 v2 x.2.1 x.2.2) N (u, 0, 0)) (fun e1 => some (.inl (e1.1, e1.2))))
def fX6_paints (N : Nat) (u : sg_St) (p1 p2 : Int32) : Option sg_St :=
  sg_b (sg_it (fun x => fX6_paints_L2 N x.1 p1 p2 x.2) N (u, 0)) (fun e1 => sg_b (sg_it (fun x => fX6_paints_L25 N x.1 p1 p2 x.2) N (e1, 1)) (fun e3 => some e3))
def fX6_source_L2 (N : Nat) (u : sg_St) (v1 v2 : Int32) : Option ((Int32) ⊕ (Int32)) :=
  (if (u 1 0) ≤ v2 then some (.inr ((-1))) else sg_g (sg_inb v2 10) ((if (u 8 (v2).toNatClampNeg) = 0 then some (.inl (v2 + 1)) else sg_g (sg_inb v2 10) ((if (u 22 (v2).toNatClampNeg) = v1 then some (.inr v2) else some (.inl (v2 + 1)))))))
def fX6_source (N : Nat) (u : sg_St) (p1 : Int32) : Option Int32 :=
  sg_it (fun x => fX6_source_L2 N u p1 x) N 0
def fX6_worth_j59 (N : Nat) (u : sg_St) (v2 k0 k1 : Int32) : Option ((Int32 × Int32) ⊕ (Int32)) :=
  some (.inl (k0 + k1, v2 + 1))
def fX6_worth_j58 (N : Nat) (u : sg_St) (v2 k0 : Int32) : Option ((Int32 × Int32) ⊕ (Int32)) :=
  fX6_worth_j59 N u v2 k0 0
def fX6_worth_L10 (N : Nat) (u : sg_St) (v1 v2 : Int32) : Option ((Int32 × Int32) ⊕ (Int32)) :=
  (if (u 1 0) ≤ v2 then some (.inr v1) else sg_g (sg_inb v2 10) ((if (u 8 (v2).toNatClampNeg) = 0 then sg_g (sg_inb v2 10) (sg_b (fX6_source N u (u 22 (v2).toNatClampNeg)) (fun r4 => (if r4 = ((-1)) then fX6_worth_j58 N u v2 v1 else sg_g (sg_inb v2 10) (sg_g (sg_inb v2 10) (fX6_worth_j59 N u v2 v1 ((u 10 (v2).toNatClampNeg) * (u 11 (v2).toNatClampNeg))))))) else fX6_worth_j58 N u v2 v1)))
def fX6_worth (N : Nat) (u : sg_St) : Option (Int32 × sg_St) :=
  sg_b (fX6_paints N u ((-1)) ((-1))) (fun u3 => sg_b (sg_it (fun x => fX6_worth_L10 N u3 x.1 x.2) N (0, 0)) (fun e4 => some (e4, u3)))
def fX6_isEarlier_L2 (N : Nat) (u : sg_St) (v1 : Int32) : Option ((Int32) ⊕ (Int32)) :=
  (if (u 5 0) ≤ v1 then some (.inr 0) else sg_g (sg_inb v1 12) (sg_g (sg_inb v1 12) ((if (u 25 (v1).toNatClampNeg) = (u 26 (v1).toNatClampNeg) then some (.inl (v1 + 1)) else sg_g (sg_inb v1 12) (sg_g (sg_inb v1 12) ((if (u 26 (v1).toNatClampNeg) ≤ (u 25 (v1).toNatClampNeg) then some (.inr 0) else some (.inr 1))))))))
def fX6_isEarlier (N : Nat) (u : sg_St) : Option Int32 :=
  sg_it (fun x => fX6_isEarlier_L2 N u x) N 0
def fX6_isChoice_j40 (N : Nat) (u : sg_St) : Option (Int32) :=
  some 0
def fX6_isChoice (N : Nat) (u : sg_St) (p1 : Int32) : Option Int32 :=
  sg_g (sg_inb p1 12) ((if (u 19 (p1).toNatClampNeg) = 0 then sg_g (sg_inb p1 12) ((if (u 20 (p1).toNatClampNeg) = 0 then sg_g (sg_inb p1 12) ((if (u 21 (p1).toNatClampNeg) = 0 then sg_g (sg_inb p1 12) ((if (u 18 (p1).toNatClampNeg) = 0 then fX6_isChoice_j40 N u else some 1)) else fX6_isChoice_j40 N u)) else fX6_isChoice_j40 N u)) else fX6_isChoice_j40 N u))
def fX6_hasFaultIn_L2 (N : Nat) (u : sg_St) (v1 v2 : Int32) : Option ((Int32) ⊕ (Int32)) :=
  (if (u 2 0) ≤ v2 then some (.inr 0) else sg_g (sg_inb v2 12) ((if (u 19 (v2).toNatClampNeg) = 0 then some (.inl (v2 + 1)) else sg_g (sg_inb v2 12) ((if (u 21 (v2).toNatClampNeg) = 0 then some (.inl (v2 + 1)) else sg_g (sg_inb v2 12) (sg_g (sg_inb (u 12 (v2).toNatClampNeg) 10) ((if (u 22 (u 12 (v2).toNatClampNeg).toNatClampNeg) = v1 then some (.inr 1) else some (.inl (v2 + 1))))))))))
def fX6_hasFaultIn (N : Nat) (u : sg_St) (p1 : Int32) : Option Int32 :=
  sg_it (fun x => fX6_hasFaultIn_L2 N u p1 x) N 0
def fX6_sum_j33 (N : Nat) (u : sg_St) (v1 v3 k0 k1 : Int32) : Option ((Int32 × Int32) ⊕ (Int32)) :=
  some (.inl (k0 + k1, v3 + 1))
def fX6_sum_L4 (N : Nat) (u : sg_St) (v1 v2 v3 : Int32) : Option ((Int32 × Int32) ⊕ (Int32)) :=
  (if (u 1 0) ≤ v3 then some (.inr v2) else sg_g (sg_inb v3 10) ((if (u 22 (v3).toNatClampNeg) = v1 then sg_g (sg_inb v3 10) (fX6_sum_j33 N u v1 v3 v2 (u 10 (v3).toNatClampNeg)) else fX6_sum_j33 N u v1 v3 v2 0)))
def fX6_sum (N : Nat) (u : sg_St) (p1 : Int32) : Option Int32 :=
  sg_b (sg_it (fun x => fX6_sum_L4 N u p1 x.1 x.2) N (0, 0)) (fun e1 => some e1)
def fX6_flow (N : Nat) (u : sg_St) (p1 p2 : Int32) : Option (Int32 × sg_St) :=
  sg_b (fX6_paints N u p1 p2) (fun u3 => sg_g (sg_inb p1 12) (sg_g (sg_inb (u3 12 (p1).toNatClampNeg) 10) (sg_b (fX6_source N u3 (u3 22 (u3 12 (p1).toNatClampNeg).toNatClampNeg)) (fun r7 => (if r7 = ((-1)) then sg_g (sg_inb p1 12) (sg_g (sg_inb (u3 13 (p1).toNatClampNeg) 10) (sg_b (fX6_source N u3 (u3 22 (u3 13 (p1).toNatClampNeg).toNatClampNeg)) (fun r12 => (if r12 = ((-1)) then some (0, u3) else sg_g (sg_inb p1 12) (sg_g (sg_inb (u3 12 (p1).toNatClampNeg) 10) (sg_b (fX6_sum N u3 (u3 22 (u3 12 (p1).toNatClampNeg).toNatClampNeg)) (fun r17 => some (r17, u3)))))))) else sg_g (sg_inb p1 12) (sg_g (sg_inb (u3 13 (p1).toNatClampNeg) 10) (sg_b (fX6_sum N u3 (u3 22 (u3 13 (p1).toNatClampNeg).toNatClampNeg)) (fun r23 => some (r23, u3)))))))))
def fX6_tooMuch_j24 (N : Nat) (u : sg_St) (v1 v2 : Int32) : Option ((sg_St × Int32) ⊕ ((Int32 × sg_St))) :=
  sg_b2 (fX6_flow N u v2 v1) (fun r2 u3 => sg_g (sg_inb v2 12) ((if r2 ≤ (u3 14 (v2).toNatClampNeg) then some (.inl (u3, v2 + 1)) else some (.inr (v2, u3)))))
def fX6_tooMuch_L2 (N : Nat) (u : sg_St) (v1 v2 : Int32) : Option ((sg_St × Int32) ⊕ ((Int32 × sg_St))) :=
  (if (u 2 0) ≤ v2 then some (.inr ((-1), u)) else sg_g (sg_inb v2 12) ((if (u 19 (v2).toNatClampNeg) = 0 then (if v2 = v1 then fX6_tooMuch_j24 N u v1 v2 else some (.inl (u, v2 + 1))) else fX6_tooMuch_j24 N u v1 v2)))
def fX6_tooMuch (N : Nat) (u : sg_St) (p1 : Int32) : Option (Int32 × sg_St) :=
  sg_it (fun x => fX6_tooMuch_L2 N x.1 p1 x.2) N (u, 0)
def fX6_reason_j228 (N : Nat) (u : sg_St) (v1 : Int32) : Option ((Int32 × sg_St)) :=
  sg_b2 (fX6_tooMuch N u v1) (fun r2 u3 => (if r2 = ((-1)) then some (110, u3) else some (108, u3)))
def fX6_reason_j221 (N : Nat) (u : sg_St) (v1 k0 k1 : Int32) : Option ((Int32 × sg_St)) :=
  sg_g (sg_inb k1 10) ((if k0 ≤ (u 9 (k1).toNatClampNeg) then fX6_reason_j228 N u v1 else some (115, u)))
def fX6_reason_j188 (N : Nat) (u : sg_St) (v1 v2 v3 v4 v5 v6 : Int32) : Option ((Int32 × sg_St)) :=
  (if v6 = 0 then fX6_reason_j228 N u v1 else sg_b (fX6_sum N u v2) (fun r2 => sg_b (fX6_sum N u v3) (fun r5 => (if v4 = ((-1)) then fX6_reason_j221 N u v1 (r2 + r5) v5 else fX6_reason_j221 N u v1 (r2 + r5) v4))))
def fX6_reason_j162 (N : Nat) (u : sg_St) (v1 v2 v3 v4 v5 v6 v7 : Int32) : Option ((Int32 × sg_St)) :=
  (if v6 = 0 then fX6_reason_j188 N u v1 v2 v3 v4 v5 v6 else sg_g (sg_inb v1 12) ((if (u 18 (v1).toNatClampNeg) = 0 then sg_b (fX6_sum N u v7) (fun r3 => (if r3 ≤ 0 then fX6_reason_j188 N u v1 v2 v3 v4 v5 v6 else some (100, u))) else fX6_reason_j188 N u v1 v2 v3 v4 v5 v6)))
def fX6_reason_j142 (N : Nat) (u : sg_St) (v1 v2 v3 v4 v5 v6 v7 : Int32) : Option ((Int32 × sg_St)) :=
  (if v2 = v3 then some (114, u) else (if v4 = ((-1)) then fX6_reason_j162 N u v1 v2 v3 v4 v5 v6 v7 else (if v5 = ((-1)) then fX6_reason_j162 N u v1 v2 v3 v4 v5 v6 v7 else some (114, u))))
def fX6_reason_j123 (N : Nat) (u : sg_St) (v1 v2 v3 v4 v5 v6 k0 : Int32) : Option ((Int32 × sg_St)) :=
  (if v6 = 0 then fX6_reason_j142 N u v1 v2 v3 v4 v5 v6 k0 else sg_b (fX6_hasFaultIn N u k0) (fun r2 => (if r2 = 0 then fX6_reason_j142 N u v1 v2 v3 v4 v5 v6 k0 else some (102, u))))
def fX6_reason_j110 (N : Nat) (u : sg_St) (v1 v2 v3 v4 v5 k0 : Int32) : Option ((Int32 × sg_St)) :=
  (if v4 = ((-1)) then fX6_reason_j123 N u v1 v2 v3 v4 v5 k0 v2 else fX6_reason_j123 N u v1 v2 v3 v4 v5 k0 v3)
def fX6_reason_j102 (N : Nat) (u : sg_St) (v1 v2 v3 v4 v5 k0 k1 : Int32) : Option ((Int32 × sg_St)) :=
  (if k0 = k1 then fX6_reason_j110 N u v1 v2 v3 v4 v5 0 else fX6_reason_j110 N u v1 v2 v3 v4 v5 1)
def fX6_reason_j91 (N : Nat) (u : sg_St) (v1 v2 v3 v4 v5 k0 : Int32) : Option ((Int32 × sg_St)) :=
  (if v5 = ((-1)) then fX6_reason_j102 N u v1 v2 v3 v4 v5 k0 1 else fX6_reason_j102 N u v1 v2 v3 v4 v5 k0 0)
def fX6_reason (N : Nat) (u : sg_St) (p1 : Int32) : Option (Int32 × sg_St) :=
  sg_g (sg_inb p1 12) ((if (u 19 (p1).toNatClampNeg) = 0 then sg_g (sg_inb p1 12) ((if (u 20 (p1).toNatClampNeg) = 0 then sg_g (sg_inb p1 12) ((if (u 21 (p1).toNatClampNeg) = 0 then sg_b (fX6_paints N u ((-1)) ((-1))) (fun u6 => sg_g (sg_inb p1 12) (sg_g (sg_inb (u6 12 (p1).toNatClampNeg) 10) (sg_g (sg_inb p1 12) (sg_g (sg_inb (u6 13 (p1).toNatClampNeg) 10) (sg_b (fX6_source N u6 (u6 22 (u6 12 (p1).toNatClampNeg).toNatClampNeg)) (fun r12 => sg_b (fX6_source N u6 (u6 22 (u6 13 (p1).toNatClampNeg).toNatClampNeg)) (fun r15 => (if r12 = ((-1)) then fX6_reason_j91 N u6 p1 (u6 22 (u6 12 (p1).toNatClampNeg).toNatClampNeg) (u6 22 (u6 13 (p1).toNatClampNeg).toNatClampNeg) r12 r15 1 else fX6_reason_j91 N u6 p1 (u6 22 (u6 12 (p1).toNatClampNeg).toNatClampNeg) (u6 22 (u6 13 (p1).toNatClampNeg).toNatClampNeg) r12 r15 0)))))))) else some (102, u))) else some (111, u))) else some (99, u)))
def fX6_tries_L74 (N : Nat) (rc : sg_St → Int32 → Option sg_St) (u : sg_St) (v3 : Int32) : Option ((sg_St × Int32) ⊕ (sg_St)) :=
  (if (u 5 0) ≤ v3 then some (.inr u) else sg_g (sg_inb v3 12) (sg_g (sg_inb v3 12) (some (.inl (sg_set u 26 (v3).toNatClampNeg (u 25 (v3).toNatClampNeg), v3 + 1)))))
def fX6_tries_j59 (N : Nat) (rc : sg_St → Int32 → Option sg_St) (u : sg_St) (v2 : Int32) : Option (sg_St) :=
  sg_b (sg_it (fun x => fX6_tries_L74 N rc x.1 x.2) N (sg_set (sg_set u 7 0 v2) 6 0 ((sg_set u 7 0 v2) 5 0), 0)) (fun e1 => some e1)
def fX6_tries_B (N : Nat) (rc : sg_St → Int32 → Option sg_St) (u : sg_St) (p1 : Int32) : Option sg_St :=
  (if p1 = (u 2 0) then sg_b2 (fX6_worth N u ) (fun r20 u21 => (if r20 < (u21 7 0) then some u21 else (if r20 = (u21 7 0) then (if (u21 6 0) < (u21 5 0) then some u21 else (if (u21 5 0) = (u21 6 0) then sg_b (fX6_isEarlier N u21 ) (fun r23 => (if r23 = 0 then some u21 else fX6_tries_j59 N rc u21 r20)) else fX6_tries_j59 N rc u21 r20)) else fX6_tries_j59 N rc u21 r20))) else sg_b (rc u (p1 + 1)) (fun u3 => sg_b (fX6_isChoice N u3 p1) (fun r5 => (if r5 = 0 then some u3 else sg_b2 (fX6_reason N u3 p1) (fun r8 u9 => (if r8 = 110 then sg_g (sg_inb p1 12) (sg_g (sg_inb ((sg_set u9 19 (p1).toNatClampNeg (vp_nar .boolean 1)) 5 0) 12) (sg_l (((sg_set (sg_set u9 19 (p1).toNatClampNeg (vp_nar .boolean 1)) 25 ((sg_set u9 19 (p1).toNatClampNeg (vp_nar .boolean 1)) 5 0).toNatClampNeg p1) 5 0) + 1) (fun x12 => sg_b (rc (sg_set (sg_set (sg_set u9 19 (p1).toNatClampNeg (vp_nar .boolean 1)) 25 ((sg_set u9 19 (p1).toNatClampNeg (vp_nar .boolean 1)) 5 0).toNatClampNeg p1) 5 0 x12) (p1 + 1)) (fun u15 => sg_g (sg_inb p1 12) (some (sg_set (sg_set u15 5 0 ((u15 5 0) - 1)) 19 (p1).toNatClampNeg (vp_nar .boolean 0))))))) else some u9))))))
def fX6_tries (N d : Nat) : sg_St → Int32 → Option sg_St := sg_rec (fX6_tries_B N) (fun _ _  => none) d
def fX6_chooses (N : Nat) (u : sg_St) : Option sg_St :=
  sg_b2 (fX6_worth N (sg_set (sg_set (sg_set u 0 0 0) 5 0 0) 6 0 0) ) (fun r2 u3 => sg_b (fX6_tries N 15 (sg_set u3 7 0 r2) 0) (fun u6 => some u6))
def fX6_bestAt (N : Nat) (u : sg_St) (p1 : Int32) : Option (Int32 × sg_St) :=
  sg_b (fX6_chooses N u ) (fun u3 => sg_b (fX6_in N p1 0 ((u3 6 0) - 1)) (fun r5 => (if r5 = 0 then sg_b2 (fX6_fails N u3 1) (fun r8 u9 => some (r8, u9)) else sg_g (sg_inb p1 12) (some (u3 26 (p1).toNatClampNeg, u3)))))
def fX6_bestSize (N : Nat) (u : sg_St) : Option (Int32 × sg_St) :=
  sg_b (fX6_chooses N u ) (fun u3 => some (u3 6 0, u3))
def fX6_bestValue (N : Nat) (u : sg_St) : Option (Int32 × sg_St) :=
  sg_b (fX6_chooses N u ) (fun u3 => some (u3 7 0, u3))
def fX6_isLine (N : Nat) (u : sg_St) (p1 : Int32) : Option Int32 :=
  sg_b (fX6_in N p1 0 ((u 2 0) - 1)) (fun r2 => sg_g ((decide (r2 = 0) || decide (r2 = 1))) (some r2))
def fX6_isThere_j10 (N : Nat) (u : sg_St) (v1 k0 : Int32) : Option ((Int32 × sg_St)) :=
  sg_g ((decide (v1 = 0) || decide (v1 = 1))) (some (v1, sg_set u 0 0 k0))
def fX6_isThere (N : Nat) (u : sg_St) (p1 : Int32) : Option (Int32 × sg_St) :=
  (if p1 = 0 then fX6_isThere_j10 N u p1 1 else fX6_isThere_j10 N u p1 0)
def fX6_canClose (N : Nat) (u : sg_St) (p1 : Int32) : Option (Int32 × sg_St) :=
  sg_b (fX6_isLine N u p1) (fun r2 => sg_b2 (fX6_isThere N u r2) (fun r5 u6 => (if r5 = 0 then some (0, u6) else sg_b2 (fX6_reason N u6 p1) (fun r8 u9 => sg_g (decide (vp_nar .char r8 = r8)) (some (r8, u9))))))
def fX6_flowOf (N : Nat) (u : sg_St) (p1 : Int32) : Option (Int32 × sg_St) :=
  sg_g (sg_inb p1 12) ((if (u 19 (p1).toNatClampNeg) = 0 then some (0, u) else sg_b2 (fX6_flow N u p1 ((-1))) (fun r3 u4 => some (r3, u4))))
def fX6_reasonToOpen (N : Nat) (u : sg_St) (p1 : Int32) : Option (Int32 × sg_St) :=
  sg_g (sg_inb p1 12) ((if (u 19 (p1).toNatClampNeg) = 0 then some (99, u) else sg_g (sg_inb p1 12) ((if (u 18 (p1).toNatClampNeg) = 0 then sg_b2 (fX6_flowOf N u p1) (fun r4 u5 => (if r4 = 0 then some (110, u5) else some (100, u5))) else some (110, u)))))
def fX6_canOpen (N : Nat) (u : sg_St) (p1 : Int32) : Option (Int32 × sg_St) :=
  sg_b (fX6_isLine N u p1) (fun r2 => sg_b2 (fX6_isThere N u r2) (fun r5 u6 => (if r5 = 0 then some (0, u6) else sg_b2 (fX6_reasonToOpen N u6 p1) (fun r8 u9 => sg_g (decide (vp_nar .char r8 = r8)) (some (r8, u9))))))
def fX6_canTry_j26 (N : Nat) (u : sg_St) (v2 k0 k1 : Int32) : Option ((Int32 × Int32) ⊕ (Int32)) :=
  some (.inl (k0 + k1, v2 + 1))
def fX6_canTry_L4 (N : Nat) (u : sg_St) (v1 v2 : Int32) : Option ((Int32 × Int32) ⊕ (Int32)) :=
  (if (u 2 0) ≤ v2 then some (.inr v1) else sg_b (fX6_isChoice N u v2) (fun r2 => (if r2 = 0 then fX6_canTry_j26 N u v2 v1 0 else fX6_canTry_j26 N u v2 v1 1)))
def fX6_canTry (N : Nat) (u : sg_St) : Option (Int32 × sg_St) :=
  sg_b (sg_it (fun x => fX6_canTry_L4 N u x.1 x.2) N (0, 0)) (fun e1 => (if 9 < e1 then sg_b2 (fX6_isThere N u 0) (fun r4 u5 => sg_g ((decide (r4 = 0) || decide (r4 = 1))) (some (r4, u5))) else sg_b2 (fX6_isThere N u 1) (fun r8 u9 => sg_g ((decide (r8 = 0) || decide (r8 = 1))) (some (r8, u9)))))
def fX6_close (N : Nat) (u : sg_St) (p1 : Int32) : Option (Int32 × sg_St) :=
  sg_b (fX6_isLine N u p1) (fun r2 => sg_b2 (fX6_isThere N u r2) (fun r5 u6 => (if r5 = 0 then some (0, u6) else sg_b2 (fX6_reason N u6 p1) (fun r8 u9 => (if r8 = 110 then sg_g (sg_inb p1 12) (sg_g (decide (vp_nar .char r8 = r8)) (some (r8, sg_set u9 19 (p1).toNatClampNeg (vp_nar .boolean 1)))) else sg_g (decide (vp_nar .char r8 = r8)) (some (r8, u9)))))))
def fX6_current (N : Nat) (u : sg_St) (p1 : Int32) : Option (Int32 × sg_St) :=
  sg_b (fX6_isLine N u p1) (fun r2 => sg_b2 (fX6_isThere N u r2) (fun r5 u6 => (if r5 = 0 then some (0, u6) else sg_b2 (fX6_flowOf N u6 p1) (fun r8 u9 => some (r8, u9)))))
def fX6_currentByCutting (N : Nat) (u : sg_St) (p1 : Int32) : Option (Int32 × sg_St) :=
  sg_b2 (fX6_current N u p1) (fun r2 u3 => some (r2, u3))
def fX6_loads_j47 (N : Nat) (u : sg_St) (v1 v3 k0 k1 : Int32) : Option ((Int32 × Int32) ⊕ (Int32)) :=
  some (.inl (k0 + k1, v3 + 1))
def fX6_loads_j41 (N : Nat) (u : sg_St) (v1 v3 k0 : Int32) : Option ((Int32 × Int32) ⊕ (Int32)) :=
  sg_g (sg_inb v3 10) (fX6_loads_j47 N u v1 v3 k0 (u 10 (v3).toNatClampNeg))
def fX6_loads_L10 (N : Nat) (u : sg_St) (v1 v2 v3 : Int32) : Option ((Int32 × Int32) ⊕ (Int32)) :=
  (if (u 1 0) ≤ v3 then some (.inr v2) else (if v1 = 0 then fX6_loads_j41 N u v1 v3 v2 else sg_g (sg_inb v3 10) (sg_b (fX6_source N u (u 22 (v3).toNatClampNeg)) (fun r3 => (if r3 = ((-1)) then fX6_loads_j41 N u v1 v3 v2 else fX6_loads_j47 N u v1 v3 v2 0)))))
def fX6_loads (N : Nat) (u : sg_St) (p1 : Int32) : Option (Int32 × sg_St) :=
  sg_b (fX6_paints N u ((-1)) ((-1))) (fun u3 => sg_b (sg_it (fun x => fX6_loads_L10 N u3 p1 x.1 x.2) N (0, 0)) (fun e4 => some (e4, u3)))
def fX6_darkLoad (N : Nat) (u : sg_St) : Option (Int32 × sg_St) :=
  sg_b2 (fX6_loads N (sg_set u 0 0 0) 1) (fun r2 u3 => some (r2, u3))
def fX6_finds_L47 (N : Nat) (u : sg_St) (v1 v2 v3 : Int32) : Option ((sg_St × Int32) ⊕ (sg_St)) :=
  (if (u 1 0) ≤ v3 then some (.inr u) else sg_g (sg_inb v3 10) (some (.inl (sg_set u 24 (v3).toNatClampNeg ((-1)), v3 + 1))))
def fX6_finds_L272 (N : Nat) (u : sg_St) (v2 v4 v5 v6 : Int32) : Option ((sg_St × Int32) ⊕ (sg_St)) :=
  (if v6 ≤ 0 then some (.inr u) else sg_g (sg_inb (v6 - 1) 12) (sg_g (sg_inb v6 12) (some (.inl (sg_set u 23 (v6).toNatClampNeg (u 23 (v6 - 1).toNatClampNeg), v6 + (-1))))))
def fX6_finds_L251 (N : Nat) (u : sg_St) (v2 v4 : Int32) : Option ((sg_St × Int32) ⊕ (sg_St)) :=
  (if v4 = v2 then some (.inr u) else sg_g (sg_inb v4 10) (sg_b (sg_it (fun x => fX6_finds_L272 N x.1 v2 v4 (u 24 (v4).toNatClampNeg) x.2) N (u, u 4 0)) (fun e2 => sg_g (sg_inb 0 12) (sg_g (sg_inb (u 24 (v4).toNatClampNeg) 12) ((if ((sg_set (sg_set e2 23 (0 : Int32).toNatClampNeg (u 24 (v4).toNatClampNeg)) 4 0 (((sg_set e2 23 (0 : Int32).toNatClampNeg (u 24 (v4).toNatClampNeg)) 4 0) + 1)) 12 (u 24 (v4).toNatClampNeg).toNatClampNeg) = v4 then sg_g (sg_inb (u 24 (v4).toNatClampNeg) 12) (sg_l ((sg_set (sg_set e2 23 (0 : Int32).toNatClampNeg (u 24 (v4).toNatClampNeg)) 4 0 (((sg_set e2 23 (0 : Int32).toNatClampNeg (u 24 (v4).toNatClampNeg)) 4 0) + 1)) 13 (u 24 (v4).toNatClampNeg).toNatClampNeg) (fun x9 => some (.inl (sg_set (sg_set e2 23 (0 : Int32).toNatClampNeg (u 24 (v4).toNatClampNeg)) 4 0 (((sg_set e2 23 (0 : Int32).toNatClampNeg (u 24 (v4).toNatClampNeg)) 4 0) + 1), x9)))) else sg_g (sg_inb (u 24 (v4).toNatClampNeg) 12) (sg_l ((sg_set (sg_set e2 23 (0 : Int32).toNatClampNeg (u 24 (v4).toNatClampNeg)) 4 0 (((sg_set e2 23 (0 : Int32).toNatClampNeg (u 24 (v4).toNatClampNeg)) 4 0) + 1)) 12 (u 24 (v4).toNatClampNeg).toNatClampNeg) (fun x7 => some (.inl (sg_set (sg_set e2 23 (0 : Int32).toNatClampNeg (u 24 (v4).toNatClampNeg)) 4 0 (((sg_set e2 23 (0 : Int32).toNatClampNeg (u 24 (v4).toNatClampNeg)) 4 0) + 1), x7))))))))))
def fX6_finds_j205 (N : Nat) (u : sg_St) (v1 v2 v4 k0 : Int32) : Option ((sg_St × Int32 × Int32) ⊕ (sg_St × Int32)) :=
  sg_g (sg_inb k0 10) (some (.inl (sg_set u 24 (k0).toNatClampNeg v4, 1, v4 + 1)))
def fX6_finds_j167 (N : Nat) (u : sg_St) (v1 v2 v3 v4 v5 k0 : Int32) : Option ((sg_St × Int32 × Int32) ⊕ (sg_St × Int32)) :=
  (if v5 = k0 then some (.inl (u, v3, v4 + 1)) else (if v5 = 0 then sg_g (sg_inb v4 12) (fX6_finds_j205 N u v1 v2 v4 (u 12 (v4).toNatClampNeg)) else sg_g (sg_inb v4 12) (fX6_finds_j205 N u v1 v2 v4 (u 13 (v4).toNatClampNeg))))
def fX6_finds_j133 (N : Nat) (u : sg_St) (v1 v2 v3 v4 k0 : Int32) : Option ((sg_St × Int32 × Int32) ⊕ (sg_St × Int32)) :=
  sg_g (sg_inb v4 12) ((if (u 13 (v4).toNatClampNeg) = v2 then fX6_finds_j167 N u v1 v2 v3 v4 k0 1 else sg_g (sg_inb v4 12) (sg_g (sg_inb (u 13 (v4).toNatClampNeg) 10) ((if (u 24 (u 13 (v4).toNatClampNeg).toNatClampNeg) = ((-1)) then fX6_finds_j167 N u v1 v2 v3 v4 k0 0 else fX6_finds_j167 N u v1 v2 v3 v4 k0 1)))))
def fX6_finds_L79 (N : Nat) (u : sg_St) (v1 v2 v3 v4 : Int32) : Option ((sg_St × Int32 × Int32) ⊕ (sg_St × Int32)) :=
  (if (u 2 0) ≤ v4 then some (.inr (u, v3)) else sg_g (sg_inb v4 12) ((if (u 19 (v4).toNatClampNeg) = 0 then some (.inl (u, v3, v4 + 1)) else sg_g (sg_inb v4 12) ((if (u 12 (v4).toNatClampNeg) = v2 then fX6_finds_j133 N u v1 v2 v3 v4 1 else sg_g (sg_inb v4 12) (sg_g (sg_inb (u 12 (v4).toNatClampNeg) 10) ((if (u 24 (u 12 (v4).toNatClampNeg).toNatClampNeg) = ((-1)) then fX6_finds_j133 N u v1 v2 v3 v4 0 else fX6_finds_j133 N u v1 v2 v3 v4 1))))))))
def fX6_finds_L70 (N : Nat) (u : sg_St) (v1 v2 v3 : Int32) : Option ((sg_St × Int32) ⊕ (sg_St)) :=
  (if v3 = 0 then some (.inr u) else sg_b (sg_it (fun x => fX6_finds_L79 N x.1 v1 v2 x.2.1 x.2.2) N (u, 0, 0)) (fun e1 => some (.inl (e1.1, e1.2))))
def fX6_finds_j249 (N : Nat) (u : sg_St) (v2 k0 : Int32) : Option ((Int32 × sg_St)) :=
  sg_b (sg_it (fun x => fX6_finds_L251 N x.1 v2 x.2) N (u, k0)) (fun e1 => some (1, e1))
def fX6_finds (N : Nat) (u : sg_St) (p1 : Int32) : Option (Int32 × sg_St) :=
  sg_g (sg_inb p1 12) ((if ((sg_set u 4 0 0) 19 (p1).toNatClampNeg) = 0 then some (0, sg_set u 4 0 0) else sg_b (fX6_paints N (sg_set u 4 0 0) ((-1)) ((-1))) (fun u4 => sg_g (sg_inb p1 12) (sg_g (sg_inb (u4 12 (p1).toNatClampNeg) 10) (sg_b (fX6_source N u4 (u4 22 (u4 12 (p1).toNatClampNeg).toNatClampNeg)) (fun r8 => (if r8 = ((-1)) then some (0, u4) else sg_b (sg_it (fun x => fX6_finds_L47 N x.1 p1 r8 x.2) N (u4, 0)) (fun e10 => sg_b (sg_it (fun x => fX6_finds_L70 N x.1 p1 r8 x.2) N (e10, 1)) (fun e12 => sg_g (sg_inb p1 12) (sg_g (sg_inb (e12 12 (p1).toNatClampNeg) 10) ((if (e12 24 (e12 12 (p1).toNatClampNeg).toNatClampNeg) = p1 then sg_g (sg_inb p1 12) (fX6_finds_j249 N e12 r8 (e12 12 (p1).toNatClampNeg)) else sg_g (sg_inb p1 12) (fX6_finds_j249 N e12 r8 (e12 13 (p1).toNatClampNeg))))))))))))))
def fX6_isFound_j28 (N : Nat) (u : sg_St) (k0 : Int32) : Option ((Int32 × sg_St)) :=
  (if ((sg_set u 0 0 k0) 0 0) = 0 then some (1, sg_set u 0 0 k0) else some (0, sg_set u 0 0 k0))
def fX6_isFound (N : Nat) (u : sg_St) (p1 : Int32) : Option (Int32 × sg_St) :=
  sg_b (fX6_isLine N u p1) (fun r2 => sg_b2 (fX6_isThere N u r2) (fun r5 u6 => (if r5 = 0 then some (0, u6) else sg_b2 (fX6_finds N u6 p1) (fun r8 u9 => (if r8 = 0 then fX6_isFound_j28 N u9 2 else fX6_isFound_j28 N u9 0)))))
def fX6_distance (N : Nat) (u : sg_St) (p1 : Int32) : Option (Int32 × sg_St) :=
  sg_b2 (fX6_isFound N u p1) (fun r2 u3 => (if r2 = 0 then some (0, u3) else some (u3 4 0, u3)))
def fX6_sourceOfPath (N : Nat) (u : sg_St) : Option Int32 :=
  sg_g (sg_inb 0 12) (sg_g (sg_inb (u 23 (0 : Int32).toNatClampNeg) 12) (sg_g (sg_inb (u 12 (u 23 (0 : Int32).toNatClampNeg).toNatClampNeg) 10) ((if (u 8 (u 12 (u 23 (0 : Int32).toNatClampNeg).toNatClampNeg).toNatClampNeg) = 0 then sg_g (sg_inb (u 23 (0 : Int32).toNatClampNeg) 12) (some (u 13 (u 23 (0 : Int32).toNatClampNeg).toNatClampNeg)) else sg_g (sg_inb (u 23 (0 : Int32).toNatClampNeg) 12) (some (u 12 (u 23 (0 : Int32).toNatClampNeg).toNatClampNeg))))))
def fX6_drawn (N : Nat) (u : sg_St) : Option Int32 :=
  sg_b (fX6_sourceOfPath N u ) (fun r2 => sg_g (sg_inb r2 10) (sg_g (decide (¬ (u 4 0) = 0)) (some (((u 9 (r2).toNatClampNeg) * 10) / (u 4 0)))))
def fX6_time_j35 (N : Nat) (u : sg_St) (v1 v2 : Int32) : Option (Int32) :=
  sg_g (sg_inb v1 12) (sg_g (sg_inb v1 12) (sg_g (sg_inb v1 12) (sg_g (decide (¬ (v2 - (u 15 (v1).toNatClampNeg)) = 0)) (some (((((u 16 (v1).toNatClampNeg) * (u 15 (v1).toNatClampNeg)) * 10) / (v2 - (u 15 (v1).toNatClampNeg))) + 2)))))
def fX6_time (N : Nat) (u : sg_St) (p1 p2 : Int32) : Option Int32 :=
  sg_g (sg_inb p1 12) ((if (u 15 (p1).toNatClampNeg) < p2 then sg_g (sg_inb p1 12) ((if (u 17 (p1).toNatClampNeg) ≤ 0 then fX6_time_j35 N u p1 p2 else sg_g (sg_inb p1 12) ((if p2 < (u 17 (p1).toNatClampNeg) then fX6_time_j35 N u p1 p2 else some 1)))) else some ((-1))))
def fX6_tripped_j81 (N : Nat) (u : sg_St) (v3 v4 : Int32) : Option ((Int32 × Int32) ⊕ (Int32)) :=
  some (.inl (v4, v3 + 1))
def fX6_tripped_j55 (N : Nat) (u : sg_St) (v2 v3 v4 k0 : Int32) : Option ((Int32 × Int32) ⊕ (Int32)) :=
  (if k0 = ((-1)) then some (.inl (v2, v3 + 1)) else (if v2 < 0 then fX6_tripped_j81 N u v3 v4 else sg_b (fX6_drawn N u ) (fun r2 => sg_b (fX6_time N u v2 r2) (fun r5 => (if r5 < k0 then some (.inl (v2, v3 + 1)) else fX6_tripped_j81 N u v3 v4)))))
def fX6_tripped_L15 (N : Nat) (u : sg_St) (v2 v3 : Int32) : Option ((Int32 × Int32) ⊕ (Int32)) :=
  (if (u 4 0) ≤ v3 then some (.inr v2) else sg_g (sg_inb v3 12) (sg_g (sg_inb (u 23 (v3).toNatClampNeg) 12) ((if (u 18 (u 23 (v3).toNatClampNeg).toNatClampNeg) = 0 then fX6_tripped_j55 N u v2 v3 (u 23 (v3).toNatClampNeg) ((-1)) else sg_b (fX6_drawn N u ) (fun r4 => sg_b (fX6_time N u (u 23 (v3).toNatClampNeg) r4) (fun r7 => fX6_tripped_j55 N u v2 v3 (u 23 (v3).toNatClampNeg) r7))))))
def fX6_tripped (N : Nat) (u : sg_St) (p1 : Int32) : Option (Int32 × sg_St) :=
  sg_b2 (fX6_finds N u p1) (fun r2 u3 => (if r2 = 0 then some ((-1), u3) else sg_b (sg_it (fun x => fX6_tripped_L15 N u3 x.1 x.2) N ((-2), 0)) (fun e4 => some (e4, u3))))
def fX6_locks (N : Nat) (u : sg_St) (p1 : Int32) : Option sg_St :=
  sg_g (sg_inb p1 12) (sg_g (sg_inb p1 12) (some (sg_set (sg_set u 19 (p1).toNatClampNeg (vp_nar .boolean 0)) 20 (p1).toNatClampNeg (vp_nar .boolean 1))))
def fX6_fault_j97 (N : Nat) (u : sg_St) (v2 v3 v4 : Int32) : Option ((sg_St × Int32) ⊕ (sg_St)) :=
  sg_b (fX6_locks N u v4) (fun u3 => some (.inl (u3, v4 + 1)))
def fX6_fault_L56 (N : Nat) (u : sg_St) (v2 v3 v4 : Int32) : Option ((sg_St × Int32) ⊕ (sg_St)) :=
  (if (u 2 0) ≤ v4 then some (.inr u) else sg_g (sg_inb v4 12) ((if (u 19 (v4).toNatClampNeg) = 0 then some (.inl (u, v4 + 1)) else sg_g (sg_inb v4 12) ((if (u 12 (v4).toNatClampNeg) = v3 then fX6_fault_j97 N u v2 v3 v4 else sg_g (sg_inb v4 12) ((if (u 13 (v4).toNatClampNeg) = v3 then fX6_fault_j97 N u v2 v3 v4 else some (.inl (u, v4 + 1)))))))))
def fX6_fault_j109 (N : Nat) (u : sg_St) (v2 : Int32) : Option ((Int32 × sg_St)) :=
  (if v2 < 0 then some (v2, u) else sg_b (fX6_locks N u v2) (fun u3 => some (v2, sg_set u3 3 0 ((u3 3 0) + 1))))
def fX6_fault (N : Nat) (u : sg_St) (p1 : Int32) : Option (Int32 × sg_St) :=
  sg_b (fX6_isLine N u p1) (fun r2 => sg_b2 (fX6_isThere N u r2) (fun r5 u6 => (if r5 = 0 then some (0, u6) else sg_g (sg_inb p1 12) ((if (u6 21 (p1).toNatClampNeg) = 0 then sg_b2 (fX6_tripped N u6 p1) (fun r9 u10 => sg_g (sg_inb p1 12) ((if r9 = ((-2)) then sg_b (fX6_sourceOfPath N (sg_set u10 21 (p1).toNatClampNeg (vp_nar .boolean 1)) ) (fun r13 => sg_b (sg_it (fun x => fX6_fault_L56 N x.1 r9 r13 x.2) N (sg_set u10 21 (p1).toNatClampNeg (vp_nar .boolean 1), 0)) (fun e15 => (if r9 < 0 then some (r9, e15) else sg_b (fX6_locks N e15 r9) (fun u19 => some (r9, sg_set u19 3 0 ((u19 3 0) + 1)))))) else fX6_fault_j109 N (sg_set u10 21 (p1).toNatClampNeg (vp_nar .boolean 1)) r9))) else sg_b2 (fX6_fails N u6 2) (fun r23 u24 => some (r23, u24)))))))
def fX6_faultCurrent (N : Nat) (u : sg_St) (p1 : Int32) : Option (Int32 × sg_St) :=
  sg_b2 (fX6_isFound N u p1) (fun r2 u3 => (if r2 = 0 then some (0, u3) else sg_b (fX6_drawn N u3 ) (fun r5 => some (r5, u3))))
def fX6_hasFault_j25 (N : Nat) (u : sg_St) : Option ((Int32 × sg_St)) :=
  some (0, u)
def fX6_hasFault (N : Nat) (u : sg_St) (p1 : Int32) : Option (Int32 × sg_St) :=
  sg_b (fX6_isLine N u p1) (fun r2 => sg_b2 (fX6_isThere N u r2) (fun r5 u6 => (if r5 = 0 then fX6_hasFault_j25 N u6 else sg_g (sg_inb p1 12) ((if (u6 21 (p1).toNatClampNeg) = 0 then fX6_hasFault_j25 N u6 else some (1, u6))))))
def fX6_isClosed_j25 (N : Nat) (u : sg_St) : Option ((Int32 × sg_St)) :=
  some (0, u)
def fX6_isClosed (N : Nat) (u : sg_St) (p1 : Int32) : Option (Int32 × sg_St) :=
  sg_b (fX6_isLine N u p1) (fun r2 => sg_b2 (fX6_isThere N u r2) (fun r5 u6 => (if r5 = 0 then fX6_isClosed_j25 N u6 else sg_g (sg_inb p1 12) ((if (u6 19 (p1).toNatClampNeg) = 0 then fX6_isClosed_j25 N u6 else some (1, u6))))))
def fX6_isPainted (N : Nat) (u : sg_St) (p1 : Int32) : Option (Int32 × sg_St) :=
  sg_b (fX6_paints N u ((-1)) ((-1))) (fun u3 => sg_b (fX6_isNode N u3 p1) (fun r5 => sg_b2 (fX6_isThere N u3 r5) (fun r8 u9 => sg_g ((decide (r8 = 0) || decide (r8 = 1))) (some (r8, u9)))))
def fX6_isLive_j26 (N : Nat) (u : sg_St) : Option ((Int32 × sg_St)) :=
  some (0, u)
def fX6_isLive (N : Nat) (u : sg_St) (p1 : Int32) : Option (Int32 × sg_St) :=
  sg_b2 (fX6_isPainted N u p1) (fun r2 u3 => (if r2 = 0 then fX6_isLive_j26 N u3 else sg_g (sg_inb p1 10) (sg_b (fX6_source N u3 (u3 22 (p1).toNatClampNeg)) (fun r6 => (if r6 = ((-1)) then fX6_isLive_j26 N u3 else some (1, u3))))))
def fX6_isLocked_j25 (N : Nat) (u : sg_St) : Option ((Int32 × sg_St)) :=
  some (0, u)
def fX6_isLocked (N : Nat) (u : sg_St) (p1 : Int32) : Option (Int32 × sg_St) :=
  sg_b (fX6_isLine N u p1) (fun r2 => sg_b2 (fX6_isThere N u r2) (fun r5 u6 => (if r5 = 0 then fX6_isLocked_j25 N u6 else sg_g (sg_inb p1 12) ((if (u6 20 (p1).toNatClampNeg) = 0 then fX6_isLocked_j25 N u6 else some (1, u6))))))
def fX6_tripsItself_j22 (N : Nat) (u : sg_St) : Option ((Int32 × sg_St)) :=
  some (0, u)
def fX6_tripsItself (N : Nat) (u : sg_St) (p1 : Int32) : Option (Int32 × sg_St) :=
  sg_g (sg_inb p1 12) ((if (u 18 (p1).toNatClampNeg) = 0 then fX6_tripsItself_j22 N u else sg_b2 (fX6_tripped N u p1) (fun r3 u4 => (if r3 = p1 then some (1, u4) else fX6_tripsItself_j22 N u4))))
def fX6_isSelective_j24 (N : Nat) (u : sg_St) : Option ((Int32 × sg_St)) :=
  some (0, u)
def fX6_isSelective (N : Nat) (u : sg_St) (p1 : Int32) : Option (Int32 × sg_St) :=
  sg_b (fX6_isLine N u p1) (fun r2 => sg_b2 (fX6_isThere N u r2) (fun r5 u6 => (if r5 = 0 then fX6_isSelective_j24 N u6 else sg_b2 (fX6_tripsItself N u6 p1) (fun r8 u9 => (if r8 = 0 then fX6_isSelective_j24 N u9 else some (1, u9))))))
def fX6_isSource_j25 (N : Nat) (u : sg_St) : Option ((Int32 × sg_St)) :=
  some (0, u)
def fX6_isSource (N : Nat) (u : sg_St) (p1 : Int32) : Option (Int32 × sg_St) :=
  sg_b (fX6_isNode N u p1) (fun r2 => sg_b2 (fX6_isThere N u r2) (fun r5 u6 => (if r5 = 0 then fX6_isSource_j25 N u6 else sg_g (sg_inb p1 10) ((if (u6 8 (p1).toNatClampNeg) = 0 then fX6_isSource_j25 N u6 else some (1, u6))))))
def fX6_islandOf (N : Nat) (u : sg_St) (p1 : Int32) : Option (Int32 × sg_St) :=
  sg_b2 (fX6_isPainted N u p1) (fun r2 u3 => (if r2 = 0 then some (0, u3) else sg_g (sg_inb p1 10) (some (u3 22 (p1).toNatClampNeg, u3))))
def fX6_islandByRounds (N : Nat) (u : sg_St) (p1 : Int32) : Option (Int32 × sg_St) :=
  sg_b2 (fX6_islandOf N u p1) (fun r2 u3 => some (r2, u3))
def fX6_islandLoad (N : Nat) (u : sg_St) (p1 : Int32) : Option (Int32 × sg_St) :=
  sg_b2 (fX6_isPainted N u p1) (fun r2 u3 => (if r2 = 0 then some (0, u3) else sg_g (sg_inb p1 10) (sg_b (fX6_sum N u3 (u3 22 (p1).toNatClampNeg)) (fun r6 => some (r6, u3)))))
def fX6_islands_j39 (N : Nat) (u : sg_St) (v2 k0 k1 : Int32) : Option ((Int32 × Int32) ⊕ (Int32)) :=
  some (.inl (k0 + k1, v2 + 1))
def fX6_islands_L15 (N : Nat) (u : sg_St) (v1 v2 : Int32) : Option ((Int32 × Int32) ⊕ (Int32)) :=
  (if (u 1 0) ≤ v2 then some (.inr v1) else sg_g (sg_inb v2 10) ((if (u 22 (v2).toNatClampNeg) = v2 then fX6_islands_j39 N u v2 v1 1 else fX6_islands_j39 N u v2 v1 0)))
def fX6_islands (N : Nat) (u : sg_St) : Option (Int32 × sg_St) :=
  sg_b (fX6_paints N u ((-1)) ((-1))) (fun u3 => sg_b (sg_it (fun x => fX6_islands_L15 N (sg_set u3 0 0 0) x.1 x.2) N (0, 0)) (fun e4 => some (e4, sg_set u3 0 0 0)))
def fX6_lines (N : Nat) (u : sg_St) : Option (Int32 × sg_St) :=
  some ((sg_set u 0 0 0) 2 0, sg_set u 0 0 0)
def fX6_liveShare_j22 (N : Nat) (u : sg_St) (v1 v2 k0 : Int32) : Option ((UInt32 × sg_St)) :=
  (if v1 = 0 then some (FP.fconst0, sg_set u 0 0 k0) else sg_g (decide (FP.fdiv (FP.i2f (v1 - v2)) (FP.i2f v1) &&& 0x7fffffff ≤ 0x7f800000)) (some (FP.fdiv (FP.i2f (v1 - v2)) (FP.i2f v1), sg_set u 0 0 k0)))
def fX6_liveShare (N : Nat) (u : sg_St) : Option (UInt32 × sg_St) :=
  sg_b2 (fX6_loads N u 0) (fun r2 u3 => sg_b2 (fX6_loads N u3 1) (fun r5 u6 => (if r2 = 0 then fX6_liveShare_j22 N u6 r2 r5 1 else fX6_liveShare_j22 N u6 r2 r5 0)))
def fX6_loadOf (N : Nat) (u : sg_St) (p1 : Int32) : Option (Int32 × sg_St) :=
  sg_b (fX6_isNode N u p1) (fun r2 => sg_b2 (fX6_isThere N u r2) (fun r5 u6 => (if r5 = 0 then some (0, u6) else sg_g (sg_inb p1 10) (some (u6 10 (p1).toNatClampNeg, u6)))))
def fX6_margin_j97 (N : Nat) (u : sg_St) (v1 v3 v5 : Int32) : Option ((Int32 × Int32) ⊕ (Int32)) :=
  some (.inl (v5, v3 + 1))
def fX6_margin_j78 (N : Nat) (u : sg_St) (v1 v2 v3 k0 : Int32) : Option ((Int32 × Int32) ⊕ (Int32)) :=
  (if k0 = ((-1)) then some (.inl (v2, v3 + 1)) else (if v2 = ((-1)) then fX6_margin_j97 N u v1 v3 k0 else (if v2 ≤ k0 then some (.inl (v2, v3 + 1)) else fX6_margin_j97 N u v1 v3 k0)))
def fX6_margin_j77 (N : Nat) (u : sg_St) (v1 v2 v3 : Int32) : Option ((Int32 × Int32) ⊕ (Int32)) :=
  fX6_margin_j78 N u v1 v2 v3 ((-1))
def fX6_margin_L32 (N : Nat) (u : sg_St) (v1 v2 v3 : Int32) : Option ((Int32 × Int32) ⊕ (Int32)) :=
  (if (u 4 0) ≤ v3 then some (.inr v2) else sg_g (sg_inb v3 12) ((if (u 23 (v3).toNatClampNeg) = v1 then fX6_margin_j77 N u v1 v2 v3 else sg_g (sg_inb (u 23 (v3).toNatClampNeg) 12) ((if (u 18 (u 23 (v3).toNatClampNeg).toNatClampNeg) = 0 then fX6_margin_j77 N u v1 v2 v3 else sg_b (fX6_drawn N u ) (fun r4 => sg_b (fX6_time N u (u 23 (v3).toNatClampNeg) r4) (fun r7 => fX6_margin_j78 N u v1 v2 v3 r7)))))))
def fX6_margin (N : Nat) (u : sg_St) (p1 : Int32) : Option (Int32 × sg_St) :=
  sg_b (fX6_isLine N u p1) (fun r2 => sg_b2 (fX6_isThere N u r2) (fun r5 u6 => (if r5 = 0 then some (0, u6) else sg_b2 (fX6_tripsItself N u6 p1) (fun r8 u9 => (if r8 = 0 then sg_b2 (fX6_fails N u9 2) (fun r23 u24 => some (r23, u24)) else sg_b (sg_it (fun x => fX6_margin_L32 N u9 p1 x.1 x.2) N ((-1), 0)) (fun e10 => (if e10 = ((-1)) then sg_b2 (fX6_fails N u9 3) (fun r19 u20 => some (r19, u20)) else sg_b (fX6_drawn N u9 ) (fun r13 => sg_b (fX6_time N u9 p1 r13) (fun r16 => some (e10 - r16, u9))))))))))
def fX6_meanCurrent_j49 (N : Nat) (u : sg_St) (v1 v3 k0 k1 : Int32) : Option ((sg_St × Int32 × Int32 × Int32) ⊕ (sg_St × Int32 × Int32)) :=
  some (.inl (u, v1, k0 + k1, v3 + 1))
def fX6_meanCurrent_j32 (N : Nat) (u : sg_St) (v2 v3 v4 k0 k1 : Int32) : Option ((sg_St × Int32 × Int32 × Int32) ⊕ (sg_St × Int32 × Int32)) :=
  (if v4 = 0 then fX6_meanCurrent_j49 N u (k0 + k1) v3 v2 0 else sg_b2 (fX6_flowOf N u v3) (fun r2 u3 => fX6_meanCurrent_j49 N u3 (k0 + k1) v3 v2 r2))
def fX6_meanCurrent_L6 (N : Nat) (u : sg_St) (v1 v2 v3 : Int32) : Option ((sg_St × Int32 × Int32 × Int32) ⊕ (sg_St × Int32 × Int32)) :=
  (if (u 2 0) ≤ v3 then some (.inr (u, v1, v2)) else sg_b2 (fX6_finds N u v3) (fun r2 u3 => (if r2 = 0 then fX6_meanCurrent_j32 N u3 v2 v3 r2 v1 0 else fX6_meanCurrent_j32 N u3 v2 v3 r2 v1 1)))
def fX6_meanCurrent_j67 (N : Nat) (u : sg_St) (v1 v2 k0 : Int32) : Option ((UInt64 × sg_St)) :=
  (if v1 = 0 then some (FP.dconst0, sg_set u 0 0 k0) else sg_g (decide (FP.ddiv (FP.i2d v2) (FP.i2d v1) &&& 0x7fffffffffffffff ≤ 0x7ff0000000000000)) (some (FP.ddiv (FP.i2d v2) (FP.i2d v1), sg_set u 0 0 k0)))
def fX6_meanCurrent (N : Nat) (u : sg_St) : Option (UInt64 × sg_St) :=
  sg_b (sg_it (fun x => fX6_meanCurrent_L6 N x.1 x.2.1 x.2.2.1 x.2.2.2) N (u, 0, 0, 0)) (fun e1 => (if e1.2.1 = 0 then fX6_meanCurrent_j67 N e1.1 e1.2.1 e1.2.2 1 else fX6_meanCurrent_j67 N e1.1 e1.2.1 e1.2.2 0))
def fX6_nodes (N : Nat) (u : sg_St) : Option (Int32 × sg_St) :=
  some ((sg_set u 0 0 0) 1 0, sg_set u 0 0 0)
def fX6_open (N : Nat) (u : sg_St) (p1 : Int32) : Option (Int32 × sg_St) :=
  sg_b (fX6_isLine N u p1) (fun r2 => sg_b2 (fX6_isThere N u r2) (fun r5 u6 => (if r5 = 0 then some (0, u6) else sg_b2 (fX6_reasonToOpen N u6 p1) (fun r8 u9 => (if r8 = 110 then sg_g (sg_inb p1 12) (sg_g (decide (vp_nar .char r8 = r8)) (some (r8, sg_set u9 19 (p1).toNatClampNeg (vp_nar .boolean 0)))) else sg_g (decide (vp_nar .char r8 = r8)) (some (r8, u9)))))))
def fX6_overloaded (N : Nat) (u : sg_St) (p1 : Int32) : Option (Int32 × sg_St) :=
  sg_b (fX6_isLine N u p1) (fun r2 => sg_b2 (fX6_isThere N u r2) (fun r5 u6 => (if r5 = 0 then some (0, u6) else sg_b2 (fX6_reason N u6 p1) (fun r8 u9 => (if r8 = 108 then sg_b2 (fX6_tooMuch N u9 p1) (fun r14 u15 => some (r14, u15)) else sg_b2 (fX6_fails N u9 2) (fun r11 u12 => some (r11, u12)))))))
def fX6_pathAt (N : Nat) (u : sg_St) (p1 p2 : Int32) : Option (Int32 × sg_St) :=
  sg_b2 (fX6_isFound N u p1) (fun r2 u3 => (if r2 = 0 then some (0, u3) else sg_b (fX6_in N p2 0 ((u3 4 0) - 1)) (fun r5 => (if r5 = 0 then sg_b2 (fX6_fails N u3 3) (fun r8 u9 => some (r8, u9)) else sg_g (sg_inb p2 12) (some (u3 23 (p2).toNatClampNeg, u3))))))
def fX6_repair_j59 (N : Nat) (u : sg_St) : Option ((Int32 × sg_St)) :=
  some (0, u)
def fX6_repair_j29 (N : Nat) (u : sg_St) (v1 k0 : Int32) : Option ((Int32 × sg_St)) :=
  sg_g (sg_inb v1 12) ((if ((sg_set (sg_set u 0 0 k0) 21 (v1).toNatClampNeg (vp_nar .boolean 0)) 0 0) = 0 then sg_g (sg_inb v1 12) ((if ((sg_set (sg_set u 0 0 k0) 21 (v1).toNatClampNeg (vp_nar .boolean 0)) 20 (v1).toNatClampNeg) = 0 then fX6_repair_j59 N (sg_set (sg_set u 0 0 k0) 21 (v1).toNatClampNeg (vp_nar .boolean 0)) else some (1, sg_set (sg_set u 0 0 k0) 21 (v1).toNatClampNeg (vp_nar .boolean 0)))) else fX6_repair_j59 N (sg_set (sg_set u 0 0 k0) 21 (v1).toNatClampNeg (vp_nar .boolean 0))))
def fX6_repair (N : Nat) (u : sg_St) (p1 : Int32) : Option (Int32 × sg_St) :=
  sg_b (fX6_isLine N u p1) (fun r2 => sg_b2 (fX6_isThere N u r2) (fun r5 u6 => (if r5 = 0 then some (0, u6) else sg_g (sg_inb p1 12) ((if (u6 21 (p1).toNatClampNeg) = 0 then fX6_repair_j29 N u6 p1 2 else fX6_repair_j29 N u6 p1 0)))))
def fX6_reset_j78 (N : Nat) (u : sg_St) (v3 k0 k1 : Int32) : Option ((Int32 × Int32) ⊕ (Int32)) :=
  some (.inl (k0 + k1, v3 + 1))
def fX6_reset_L55 (N : Nat) (u : sg_St) (v2 v3 : Int32) : Option ((Int32 × Int32) ⊕ (Int32)) :=
  (if (u 2 0) ≤ v3 then some (.inr v2) else sg_g (sg_inb v3 12) ((if (u 20 (v3).toNatClampNeg) = 0 then fX6_reset_j78 N u v3 v2 0 else fX6_reset_j78 N u v3 v2 1)))
def fX6_reset (N : Nat) (u : sg_St) (p1 : Int32) : Option (Int32 × sg_St) :=
  sg_b (fX6_isLine N u p1) (fun r2 => sg_b2 (fX6_isThere N u r2) (fun r5 u6 => (if r5 = 0 then some (0, u6) else sg_g (sg_inb p1 12) ((if (u6 21 (p1).toNatClampNeg) = 0 then sg_g (sg_inb p1 12) ((if (u6 20 (p1).toNatClampNeg) = 0 then sg_b2 (fX6_fails N u6 3) (fun r13 u14 => some (r13, u14)) else sg_g (sg_inb p1 12) (sg_b (sg_it (fun x => fX6_reset_L55 N (sg_set u6 20 (p1).toNatClampNeg (vp_nar .boolean 0)) x.1 x.2) N (0, 0)) (fun e10 => some (e10, sg_set u6 20 (p1).toNatClampNeg (vp_nar .boolean 0)))))) else sg_b2 (fX6_fails N u6 2) (fun r17 u18 => some (r17, u18)))))))
def fX6_restore_L6 (N : Nat) (u : sg_St) (v1 : Int32) : Option ((sg_St × Int32) ⊕ (sg_St)) :=
  (if (u 6 0) ≤ v1 then some (.inr u) else sg_g (sg_inb v1 12) (sg_g (sg_inb (u 26 (v1).toNatClampNeg) 12) (some (.inl (sg_set u 19 (u 26 (v1).toNatClampNeg).toNatClampNeg (vp_nar .boolean 1), v1 + 1)))))
def fX6_restore (N : Nat) (u : sg_St) : Option (Int32 × sg_St) :=
  sg_b (fX6_chooses N u ) (fun u3 => sg_b (sg_it (fun x => fX6_restore_L6 N x.1 x.2) N (u3, 0)) (fun e4 => some (e4 6 0, e4)))
def fX6_setLoad_j117 (N : Nat) (u : sg_St) (v1 v3 k0 : Int32) : Option ((Int32 × sg_St)) :=
  (if k0 = 0 then some (v3, sg_set u 0 0 0) else sg_g (sg_inb v1 10) (sg_b2 (fX6_fails N (sg_set u 10 (v1).toNatClampNeg v3) 4) (fun r3 u4 => some (r3, u4))))
def fX6_setLoad_j103 (N : Nat) (u : sg_St) (v1 v3 : Int32) : Option ((Int32 × sg_St)) :=
  sg_b2 (fX6_tooMuch N u ((-1))) (fun r2 u3 => (if r2 = ((-1)) then fX6_setLoad_j117 N u3 v1 v3 0 else fX6_setLoad_j117 N u3 v1 v3 1))
def fX6_setLoad (N : Nat) (u : sg_St) (p1 p2 : Int32) : Option (Int32 × sg_St) :=
  sg_b (fX6_isNode N u p1) (fun r2 => (if r2 = 0 then sg_b2 (fX6_fails N u 1) (fun r33 u34 => some (r33, u34)) else sg_b (fX6_in N p2 0 99) (fun r5 => (if r5 = 0 then sg_b2 (fX6_fails N u 2) (fun r29 u30 => some (r29, u30)) else sg_g (sg_inb p1 10) ((if (u 8 (p1).toNatClampNeg) = 0 then sg_g (sg_inb p1 10) (sg_g (sg_inb p1 10) (sg_b (fX6_paints N (sg_set u 10 (p1).toNatClampNeg p2) ((-1)) ((-1))) (fun u12 => sg_g (sg_inb p1 10) (sg_b (fX6_source N u12 (u12 22 (p1).toNatClampNeg)) (fun r15 => (if r15 = ((-1)) then fX6_setLoad_j103 N u12 p1 (u 10 (p1).toNatClampNeg) else sg_g (sg_inb p1 10) (sg_b (fX6_sum N u12 (u12 22 (p1).toNatClampNeg)) (fun r19 => sg_g (sg_inb r15 10) ((if (u12 9 (r15).toNatClampNeg) < r19 then fX6_setLoad_j117 N u12 p1 (u 10 (p1).toNatClampNeg) 1 else fX6_setLoad_j103 N u12 p1 (u 10 (p1).toNatClampNeg))))))))))) else sg_b2 (fX6_fails N u 3) (fun r25 u26 => some (r25, u26))))))))
def fX6_setRelay_j52 (N : Nat) (u : sg_St) (v1 v2 v3 v4 : Int32) : Option ((Int32 × sg_St)) :=
  sg_g (sg_inb v1 12) ((if (u 18 (v1).toNatClampNeg) = 0 then sg_b2 (fX6_fails N u 3) (fun r7 u8 => some (r7, u8)) else sg_g (sg_inb v1 12) (sg_g (sg_inb v1 12) (sg_g (sg_inb v1 12) (sg_g (sg_inb v1 12) (some ((sg_set u 0 0 0) 15 (v1).toNatClampNeg, sg_set (sg_set (sg_set (sg_set u 0 0 0) 15 (v1).toNatClampNeg v2) 16 (v1).toNatClampNeg v3) 17 (v1).toNatClampNeg v4)))))))
def fX6_setRelay_j46 (N : Nat) (u : sg_St) : Option ((Int32 × sg_St)) :=
  sg_b2 (fX6_fails N u 2) (fun r2 u3 => some (r2, u3))
def fX6_setRelay (N : Nat) (u : sg_St) (p1 p2 p3 p4 : Int32) : Option (Int32 × sg_St) :=
  sg_b (fX6_isLine N u p1) (fun r2 => (if r2 = 0 then sg_b2 (fX6_fails N u 1) (fun r15 u16 => some (r15, u16)) else sg_b (fX6_in N p2 1 999) (fun r5 => (if r5 = 0 then fX6_setRelay_j46 N u else sg_b (fX6_in N p3 1 10) (fun r8 => (if r8 = 0 then fX6_setRelay_j46 N u else (if p4 = 0 then fX6_setRelay_j52 N u p1 p2 p3 p4 else (if p2 < p4 then fX6_setRelay_j52 N u p1 p2 p3 p4 else fX6_setRelay_j46 N u))))))))
def fX6_sizeByTrying (N : Nat) (u : sg_St) : Option (Int32 × sg_St) :=
  sg_b2 (fX6_canTry N u ) (fun r2 u3 => (if r2 = 0 then some (0, u3) else sg_b2 (fX6_bestSize N u3 ) (fun r5 u6 => some (r5, u6))))
def fX6_sourceOf (N : Nat) (u : sg_St) (p1 : Int32) : Option (Int32 × sg_St) :=
  sg_b2 (fX6_isPainted N u p1) (fun r2 u3 => (if r2 = 0 then some (0, u3) else sg_g (sg_inb p1 10) (sg_b (fX6_source N u3 (u3 22 (p1).toNatClampNeg)) (fun r6 => (if r6 = ((-1)) then sg_b2 (fX6_fails N u3 2) (fun r9 u10 => some (r9, u10)) else some (r6, u3))))))
def fX6_thrown (N : Nat) (u : sg_St) : Option Int32 :=
  some (u 0 0)
def fX6_tripTime (N : Nat) (u : sg_St) (p1 p2 : Int32) : Option (Int32 × sg_St) :=
  sg_b (fX6_isLine N u p1) (fun r2 => (if r2 = 0 then sg_b2 (fX6_fails N u 1) (fun r20 u21 => some (r20, u21)) else sg_b (fX6_in N p2 1 99999) (fun r5 => (if r5 = 0 then sg_b2 (fX6_fails N u 2) (fun r16 u17 => some (r16, u17)) else sg_g (sg_inb p1 12) ((if (u 18 (p1).toNatClampNeg) = 0 then sg_b2 (fX6_fails N u 3) (fun r12 u13 => some (r12, u13)) else sg_b (fX6_time N (sg_set u 0 0 0) p1 p2) (fun r9 => some (r9, sg_set u 0 0 0))))))))
def fX6_trips (N : Nat) (u : sg_St) : Option (Int32 × sg_St) :=
  some ((sg_set u 0 0 0) 3 0, sg_set u 0 0 0)
def fX6_valueByTrying (N : Nat) (u : sg_St) : Option (Int32 × sg_St) :=
  sg_b2 (fX6_canTry N u ) (fun r2 u3 => (if r2 = 0 then some (0, u3) else sg_b2 (fX6_bestValue N u3 ) (fun r5 u6 => some (r5, u6))))
def fX6_weight (N : Nat) (u : sg_St) (p1 : Int32) : Option (Int32 × sg_St) :=
  sg_b (fX6_isNode N u p1) (fun r2 => sg_b2 (fX6_isThere N u r2) (fun r5 u6 => (if r5 = 0 then some (0, u6) else sg_g (sg_inb p1 10) ((if (u6 8 (p1).toNatClampNeg) = 0 then sg_g (sg_inb p1 10) (sg_g (sg_inb p1 10) (some ((u6 10 (p1).toNatClampNeg) * (u6 11 (p1).toNatClampNeg), u6))) else sg_b2 (fX6_fails N u6 2) (fun r11 u12 => some (r11, u12)))))))
def fX6_wouldTrip (N : Nat) (u : sg_St) (p1 : Int32) : Option (Int32 × sg_St) :=
  sg_b (fX6_isLine N u p1) (fun r2 => sg_b2 (fX6_isThere N u r2) (fun r5 u6 => (if r5 = 0 then some (0, u6) else sg_b2 (fX6_tripped N u6 p1) (fun r8 u9 => some (r8, u9)))))
