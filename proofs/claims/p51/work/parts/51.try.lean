def ofT (I : List (List Int32)) (L N : List Int32) : CS := (fun k => if k < 12 then (fun j => (I.getD k []).getD j 0) else nb, fun k => L.getD k 0, fun k => N.getD k 0)
def eT13 : CS := ofT ((List.range 12).map (fun k => [nI k, 2, 3, 12, 0, -1, 0, 0])) [99, 0, 0] [12, 1, 0, 0]
def eT14 : CS := ofT ((List.range 12).map (fun k => [nI k, 2, 3, 12, 0, 0, nI (k / 5), nI (k % 5)])) [99, 0, 0] [12, 1, 0, 0]
def eqT (c d : CS) : Bool := (List.range 12).all (fun k => (List.range 8).all (fun j => c.1 k j == d.1 k j)) && (List.range 3).all (fun k => c.2.1 k == d.2.1 k) && (List.range 4).all (fun k => c.2.2 k == d.2.2 k)
theorem try0 : eqT (m_takeOut eT14 11) (ofT ((List.range 12).map (fun k => [nI k, 2, 3, 12, 0, if k = 11 then -1 else 0, nI (k / 5), nI (k % 5)])) [99, 0, 0] [12, 1, 0, 0]) = true := by decide +kernel
theorem try2 : eqT (lp (q_fill 0) 4 (0, eT13)).2 (ofT ((List.range 12).map (fun k => [nI k, 2, 3, 12, 0, if k < 4 then 0 else -1, if k < 4 then nI (k / 5) else 0, if k < 4 then nI (k % 5) else 0])) [99, 0, 0] [12, 1, 0, 0]) = true := by decide +kernel
theorem try3 : eqT (m_fill eT13 0).2 eT14 = true := by decide +kernel
def eT16 : CS := ofT ((List.range 12).map (fun k => [nI k, 2, 3, 12, 0, if k = 11 then -2 else 0, nI (k / 5), nI (k % 5)])) [99, 0, 0] [12, 1, 0, 0]
theorem try4 : (m_handOver eT16).1 = 11 := by decide +kernel
