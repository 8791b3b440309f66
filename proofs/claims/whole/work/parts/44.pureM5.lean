/-- a dispute is opened, a row is cut, the oldest dispute goes, a year ends -/
def opA (A : Int → Int32) (co pl r : Int) : Int → Int32 :=
  st (st (st (st (st (st A (461 + 4 * aI A 7 + 0) (iI co)) (461 + 4 * aI A 7 + 1) (iI (aI A (41 + 3 * pl + 2)))) (461 + 4 * aI A 7 + 2) (iI r)) (461 + 4 * aI A 7 + 3) (iI pl)) 7 (iI (aI A 7 + 1))) 8 (iI (aI A 8 + 1))
def ctA (A : Int → Int32) (co pl : Int) : Int → Int32 :=
  st (st (st (st (st (st (st (st (st (st A (11 + 3 * co + 1) (iI (aI A (11 + 3 * co + 1) + 1))) (41 + 3 * pl + 0) (iI (aI A (41 + 3 * pl + 0) - 1))) (101 + 6 * aI A 4 + 0) (iI (aI A 5))) (101 + 6 * aI A 4 + 1) (iI co)) (101 + 6 * aI A 4 + 2) (iI pl)) (101 + 6 * aI A 4 + 3) (iI 50)) (101 + 6 * aI A 4 + 4) (iI 0)) (101 + 6 * aI A 4 + 5) (iI 0)) 4 (iI (aI A 4 + 1))) 5 (iI (aI A 5 + 1))
def dpA (A : Int → Int32) : Int → Int32 :=
  selG (selG (st A 7 (iI (aI A 7 - 1))) (fun i => A (i + 4)) 461 (461 + 4 * (aI A 7 - 1))) (fun _ => iI 0) (461 + 4 * (aI A 7 - 1)) (461 + 4 * (aI A 7 - 1) + 4)
