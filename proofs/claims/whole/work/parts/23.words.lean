/-- words by their places in a longer list -/
theorem x_by {big ws : List Cond} (ps : List Nat) (h : ws = ps.filterMap (fun i => big[i]?)) (hg : ws.all goodWord = true) : ∀ w ∈ ws, w ∈ big ∧ goodWord w = true := by
  intro w hw
  refine ⟨?_, List.all_eq_true.mp hg w hw⟩
  rw [h] at hw
  obtain ⟨i, -, hi⟩ := List.mem_filterMap.mp hw
  exact List.mem_of_getElem? hi
theorem k_wA : ∀ w ∈ ([.arrayClass .int, .arrayClass .boolean, .arrayClass .long] : List Cond), w ∈ lw_tbl ∧ goodWord w = true := x_by [154, 397, 398] (by decide +kernel) (by decide +kernel)
set_option maxRecDepth 100000 in
theorem k_c0 : lw_tbl[1193]? = some (.code (x_Mf kML 0).1 (x_Mf kML 0).2.1 (x_Mf kML 0).2.2.1 (x_Mf kML 0).2.2.2) := by rfl
set_option maxRecDepth 100000 in
theorem k_c1 : lw_tbl[1371]? = some (.code (x_Mf kML 1).1 (x_Mf kML 1).2.1 (x_Mf kML 1).2.2.1 (x_Mf kML 1).2.2.2) := by rfl
set_option maxRecDepth 100000 in
theorem k_c2 : lw_tbl[1507]? = some (.code (x_Mf kML 2).1 (x_Mf kML 2).2.1 (x_Mf kML 2).2.2.1 (x_Mf kML 2).2.2.2) := by rfl
set_option maxRecDepth 100000 in
theorem k_c3 : lw_tbl[1358]? = some (.code (x_Mf kML 3).1 (x_Mf kML 3).2.1 (x_Mf kML 3).2.2.1 (x_Mf kML 3).2.2.2) := by rfl
set_option maxRecDepth 100000 in
theorem k_c4 : lw_tbl[1362]? = some (.code (x_Mf kML 4).1 (x_Mf kML 4).2.1 (x_Mf kML 4).2.2.1 (x_Mf kML 4).2.2.2) := by rfl
set_option maxRecDepth 100000 in
theorem k_c5 : lw_tbl[1515]? = some (.code (x_Mf kML 5).1 (x_Mf kML 5).2.1 (x_Mf kML 5).2.2.1 (x_Mf kML 5).2.2.2) := by rfl
set_option maxRecDepth 100000 in
theorem k_c6 : lw_tbl[1383]? = some (.code (x_Mf kML 6).1 (x_Mf kML 6).2.1 (x_Mf kML 6).2.2.1 (x_Mf kML 6).2.2.2) := by rfl
set_option maxRecDepth 100000 in
theorem k_c7 : lw_tbl[1379]? = some (.code (x_Mf kML 7).1 (x_Mf kML 7).2.1 (x_Mf kML 7).2.2.1 (x_Mf kML 7).2.2.2) := by rfl
set_option maxRecDepth 100000 in
theorem k_c8 : lw_tbl[1366]? = some (.code (x_Mf kML 8).1 (x_Mf kML 8).2.1 (x_Mf kML 8).2.2.1 (x_Mf kML 8).2.2.2) := by rfl
set_option maxRecDepth 100000 in
theorem k_c9 : lw_tbl[1375]? = some (.code (x_Mf kML 9).1 (x_Mf kML 9).2.1 (x_Mf kML 9).2.2.1 (x_Mf kML 9).2.2.2) := by rfl
set_option maxRecDepth 100000 in
theorem k_c10 : lw_tbl[1391]? = some (.code (x_Mf kML 10).1 (x_Mf kML 10).2.1 (x_Mf kML 10).2.2.1 (x_Mf kML 10).2.2.2) := by rfl
set_option maxRecDepth 100000 in
theorem k_c11 : lw_tbl[1387]? = some (.code (x_Mf kML 11).1 (x_Mf kML 11).2.1 (x_Mf kML 11).2.2.1 (x_Mf kML 11).2.2.2) := by rfl
set_option maxRecDepth 100000 in
theorem k_c12 : lw_tbl[1521]? = some (.code (x_Mf kML 12).1 (x_Mf kML 12).2.1 (x_Mf kML 12).2.2.1 (x_Mf kML 12).2.2.2) := by rfl
set_option maxRecDepth 100000 in
theorem k_c13 : lw_tbl[1533]? = some (.code (x_Mf kML 13).1 (x_Mf kML 13).2.1 (x_Mf kML 13).2.2.1 (x_Mf kML 13).2.2.2) := by rfl
set_option maxRecDepth 100000 in
theorem k_c14 : lw_tbl[1399]? = some (.code (x_Mf kML 14).1 (x_Mf kML 14).2.1 (x_Mf kML 14).2.2.1 (x_Mf kML 14).2.2.2) := by rfl
set_option maxRecDepth 100000 in
theorem k_c15 : lw_tbl[1395]? = some (.code (x_Mf kML 15).1 (x_Mf kML 15).2.1 (x_Mf kML 15).2.2.1 (x_Mf kML 15).2.2.2) := by rfl
set_option maxRecDepth 100000 in
theorem k_c16 : lw_tbl[1403]? = some (.code (x_Mf kML 16).1 (x_Mf kML 16).2.1 (x_Mf kML 16).2.2.1 (x_Mf kML 16).2.2.2) := by rfl
set_option maxRecDepth 100000 in
theorem k_c17 : lw_tbl[1407]? = some (.code (x_Mf kML 17).1 (x_Mf kML 17).2.1 (x_Mf kML 17).2.2.1 (x_Mf kML 17).2.2.2) := by rfl
set_option maxRecDepth 100000 in
theorem k_c18 : lw_tbl[1511]? = some (.code (x_Mf kML 18).1 (x_Mf kML 18).2.1 (x_Mf kML 18).2.2.1 (x_Mf kML 18).2.2.2) := by rfl
set_option maxRecDepth 100000 in
theorem k_c19 : lw_tbl[1415]? = some (.code (x_Mf kML 19).1 (x_Mf kML 19).2.1 (x_Mf kML 19).2.2.1 (x_Mf kML 19).2.2.2) := by rfl
set_option maxRecDepth 100000 in
theorem k_c20 : lw_tbl[1411]? = some (.code (x_Mf kML 20).1 (x_Mf kML 20).2.1 (x_Mf kML 20).2.2.1 (x_Mf kML 20).2.2.2) := by rfl
set_option maxRecDepth 100000 in
theorem k_c21 : lw_tbl[1419]? = some (.code (x_Mf kML 21).1 (x_Mf kML 21).2.1 (x_Mf kML 21).2.2.1 (x_Mf kML 21).2.2.2) := by rfl
set_option maxRecDepth 100000 in
theorem k_c22 : lw_tbl[1431]? = some (.code (x_Mf kML 22).1 (x_Mf kML 22).2.1 (x_Mf kML 22).2.2.1 (x_Mf kML 22).2.2.2) := by rfl
set_option maxRecDepth 100000 in
theorem k_c23 : lw_tbl[1435]? = some (.code (x_Mf kML 23).1 (x_Mf kML 23).2.1 (x_Mf kML 23).2.2.1 (x_Mf kML 23).2.2.2) := by rfl
set_option maxRecDepth 100000 in
theorem k_c24 : lw_tbl[1443]? = some (.code (x_Mf kML 24).1 (x_Mf kML 24).2.1 (x_Mf kML 24).2.2.1 (x_Mf kML 24).2.2.2) := by rfl
set_option maxRecDepth 100000 in
theorem k_c25 : lw_tbl[1447]? = some (.code (x_Mf kML 25).1 (x_Mf kML 25).2.1 (x_Mf kML 25).2.2.1 (x_Mf kML 25).2.2.2) := by rfl
set_option maxRecDepth 100000 in
theorem k_c26 : lw_tbl[1439]? = some (.code (x_Mf kML 26).1 (x_Mf kML 26).2.1 (x_Mf kML 26).2.2.1 (x_Mf kML 26).2.2.2) := by rfl
set_option maxRecDepth 100000 in
theorem k_c27 : lw_tbl[1427]? = some (.code (x_Mf kML 27).1 (x_Mf kML 27).2.1 (x_Mf kML 27).2.2.1 (x_Mf kML 27).2.2.2) := by rfl
set_option maxRecDepth 100000 in
theorem k_c28 : lw_tbl[1459]? = some (.code (x_Mf kML 28).1 (x_Mf kML 28).2.1 (x_Mf kML 28).2.2.1 (x_Mf kML 28).2.2.2) := by rfl
set_option maxRecDepth 100000 in
theorem k_c29 : lw_tbl[1455]? = some (.code (x_Mf kML 29).1 (x_Mf kML 29).2.1 (x_Mf kML 29).2.2.1 (x_Mf kML 29).2.2.2) := by rfl
set_option maxRecDepth 100000 in
theorem k_c30 : lw_tbl[1479]? = some (.code (x_Mf kML 30).1 (x_Mf kML 30).2.1 (x_Mf kML 30).2.2.1 (x_Mf kML 30).2.2.2) := by rfl
set_option maxRecDepth 100000 in
theorem k_c31 : lw_tbl[1475]? = some (.code (x_Mf kML 31).1 (x_Mf kML 31).2.1 (x_Mf kML 31).2.2.1 (x_Mf kML 31).2.2.2) := by rfl
set_option maxRecDepth 100000 in
theorem k_c32 : lw_tbl[1471]? = some (.code (x_Mf kML 32).1 (x_Mf kML 32).2.1 (x_Mf kML 32).2.2.1 (x_Mf kML 32).2.2.2) := by rfl
set_option maxRecDepth 100000 in
theorem k_c33 : lw_tbl[1467]? = some (.code (x_Mf kML 33).1 (x_Mf kML 33).2.1 (x_Mf kML 33).2.2.1 (x_Mf kML 33).2.2.2) := by rfl
set_option maxRecDepth 100000 in
theorem k_c34 : lw_tbl[1463]? = some (.code (x_Mf kML 34).1 (x_Mf kML 34).2.1 (x_Mf kML 34).2.2.1 (x_Mf kML 34).2.2.2) := by rfl
set_option maxRecDepth 100000 in
theorem k_c35 : lw_tbl[1491]? = some (.code (x_Mf kML 35).1 (x_Mf kML 35).2.1 (x_Mf kML 35).2.2.1 (x_Mf kML 35).2.2.2) := by rfl
set_option maxRecDepth 100000 in
theorem k_c36 : lw_tbl[1487]? = some (.code (x_Mf kML 36).1 (x_Mf kML 36).2.1 (x_Mf kML 36).2.2.1 (x_Mf kML 36).2.2.2) := by rfl
set_option maxRecDepth 100000 in
theorem k_c37 : lw_tbl[1495]? = some (.code (x_Mf kML 37).1 (x_Mf kML 37).2.1 (x_Mf kML 37).2.2.1 (x_Mf kML 37).2.2.2) := by rfl
set_option maxRecDepth 100000 in
theorem k_c38 : lw_tbl[1483]? = some (.code (x_Mf kML 38).1 (x_Mf kML 38).2.1 (x_Mf kML 38).2.2.1 (x_Mf kML 38).2.2.2) := by rfl
set_option maxRecDepth 100000 in
theorem k_c39 : lw_tbl[1451]? = some (.code (x_Mf kML 39).1 (x_Mf kML 39).2.1 (x_Mf kML 39).2.2.1 (x_Mf kML 39).2.2.2) := by rfl
set_option maxRecDepth 100000 in
theorem k_c40 : lw_tbl[1423]? = some (.code (x_Mf kML 40).1 (x_Mf kML 40).2.1 (x_Mf kML 40).2.2.1 (x_Mf kML 40).2.2.2) := by rfl
set_option maxRecDepth 100000 in
theorem k_c41 : lw_tbl[1499]? = some (.code (x_Mf kML 41).1 (x_Mf kML 41).2.1 (x_Mf kML 41).2.2.1 (x_Mf kML 41).2.2.2) := by rfl
set_option maxRecDepth 100000 in
theorem k_c42 : lw_tbl[1565]? = some (.code (x_Mf kML 42).1 (x_Mf kML 42).2.1 (x_Mf kML 42).2.2.1 (x_Mf kML 42).2.2.2) := by rfl
set_option maxRecDepth 100000 in
theorem k_c43 : lw_tbl[1561]? = some (.code (x_Mf kML 43).1 (x_Mf kML 43).2.1 (x_Mf kML 43).2.2.1 (x_Mf kML 43).2.2.2) := by rfl
set_option maxRecDepth 100000 in
theorem k_c44 : lw_tbl[1557]? = some (.code (x_Mf kML 44).1 (x_Mf kML 44).2.1 (x_Mf kML 44).2.2.1 (x_Mf kML 44).2.2.2) := by rfl
set_option maxRecDepth 100000 in
theorem k_c45 : lw_tbl[1545]? = some (.code (x_Mf kML 45).1 (x_Mf kML 45).2.1 (x_Mf kML 45).2.2.1 (x_Mf kML 45).2.2.2) := by rfl
set_option maxRecDepth 100000 in
theorem k_c46 : lw_tbl[1541]? = some (.code (x_Mf kML 46).1 (x_Mf kML 46).2.1 (x_Mf kML 46).2.2.1 (x_Mf kML 46).2.2.2) := by rfl
set_option maxRecDepth 100000 in
theorem k_c47 : lw_tbl[1549]? = some (.code (x_Mf kML 47).1 (x_Mf kML 47).2.1 (x_Mf kML 47).2.2.1 (x_Mf kML 47).2.2.2) := by rfl
set_option maxRecDepth 100000 in
theorem k_c48 : lw_tbl[1553]? = some (.code (x_Mf kML 48).1 (x_Mf kML 48).2.1 (x_Mf kML 48).2.2.1 (x_Mf kML 48).2.2.2) := by rfl
set_option maxRecDepth 100000 in
theorem k_c49 : lw_tbl[1537]? = some (.code (x_Mf kML 49).1 (x_Mf kML 49).2.1 (x_Mf kML 49).2.2.1 (x_Mf kML 49).2.2.2) := by rfl
set_option maxRecDepth 100000 in
theorem k_c50 : lw_tbl[1589]? = some (.code (x_Mf kML 50).1 (x_Mf kML 50).2.1 (x_Mf kML 50).2.2.1 (x_Mf kML 50).2.2.2) := by rfl
set_option maxRecDepth 100000 in
theorem k_c51 : lw_tbl[1525]? = some (.code (x_Mf kML 51).1 (x_Mf kML 51).2.1 (x_Mf kML 51).2.2.1 (x_Mf kML 51).2.2.2) := by rfl
set_option maxRecDepth 100000 in
theorem k_c52 : lw_tbl[1569]? = some (.code (x_Mf kML 52).1 (x_Mf kML 52).2.1 (x_Mf kML 52).2.2.1 (x_Mf kML 52).2.2.2) := by rfl
set_option maxRecDepth 100000 in
theorem k_c53 : lw_tbl[1529]? = some (.code (x_Mf kML 53).1 (x_Mf kML 53).2.1 (x_Mf kML 53).2.2.1 (x_Mf kML 53).2.2.2) := by rfl
set_option maxRecDepth 100000 in
theorem k_c54 : lw_tbl[1503]? = some (.code (x_Mf kML 54).1 (x_Mf kML 54).2.1 (x_Mf kML 54).2.2.1 (x_Mf kML 54).2.2.2) := by rfl
set_option maxRecDepth 100000 in
theorem k_c55 : lw_tbl[1573]? = some (.code (x_Mf kML 55).1 (x_Mf kML 55).2.1 (x_Mf kML 55).2.2.1 (x_Mf kML 55).2.2.2) := by rfl
set_option maxRecDepth 100000 in
theorem k_c56 : lw_tbl[1581]? = some (.code (x_Mf kML 56).1 (x_Mf kML 56).2.1 (x_Mf kML 56).2.2.1 (x_Mf kML 56).2.2.2) := by rfl
set_option maxRecDepth 100000 in
theorem k_c57 : lw_tbl[1585]? = some (.code (x_Mf kML 57).1 (x_Mf kML 57).2.1 (x_Mf kML 57).2.2.1 (x_Mf kML 57).2.2.2) := by rfl
set_option maxRecDepth 100000 in
theorem k_c58 : lw_tbl[1577]? = some (.code (x_Mf kML 58).1 (x_Mf kML 58).2.1 (x_Mf kML 58).2.2.1 (x_Mf kML 58).2.2.2) := by rfl
set_option maxRecDepth 100000 in
theorem k_c59 : lw_tbl[1593]? = some (.code (x_Mf kML 59).1 (x_Mf kML 59).2.1 (x_Mf kML 59).2.2.1 (x_Mf kML 59).2.2.2) := by rfl
set_option maxRecDepth 100000 in
theorem k_c60 : lw_tbl[1597]? = some (.code (x_Mf kML 60).1 (x_Mf kML 60).2.1 (x_Mf kML 60).2.2.1 (x_Mf kML 60).2.2.2) := by rfl
set_option maxRecDepth 100000 in
theorem k_c61 : lw_tbl[1601]? = some (.code (x_Mf kML 61).1 (x_Mf kML 61).2.1 (x_Mf kML 61).2.2.1 (x_Mf kML 61).2.2.2) := by rfl
set_option maxRecDepth 100000 in
theorem k_c62 : lw_tbl[1605]? = some (.code (x_Mf kML 62).1 (x_Mf kML 62).2.1 (x_Mf kML 62).2.2.1 (x_Mf kML 62).2.2.2) := by rfl
set_option maxRecDepth 100000 in
theorem k_c63 : lw_tbl[1617]? = some (.code (x_Mf kML 63).1 (x_Mf kML 63).2.1 (x_Mf kML 63).2.2.1 (x_Mf kML 63).2.2.2) := by rfl
set_option maxRecDepth 100000 in
theorem k_c64 : lw_tbl[1613]? = some (.code (x_Mf kML 64).1 (x_Mf kML 64).2.1 (x_Mf kML 64).2.2.1 (x_Mf kML 64).2.2.2) := by rfl
set_option maxRecDepth 100000 in
theorem k_c65 : lw_tbl[1621]? = some (.code (x_Mf kML 65).1 (x_Mf kML 65).2.1 (x_Mf kML 65).2.2.1 (x_Mf kML 65).2.2.2) := by rfl
set_option maxRecDepth 100000 in
theorem k_c66 : lw_tbl[1625]? = some (.code (x_Mf kML 66).1 (x_Mf kML 66).2.1 (x_Mf kML 66).2.2.1 (x_Mf kML 66).2.2.2) := by rfl
set_option maxRecDepth 100000 in
theorem k_c67 : lw_tbl[1609]? = some (.code (x_Mf kML 67).1 (x_Mf kML 67).2.1 (x_Mf kML 67).2.2.1 (x_Mf kML 67).2.2.2) := by rfl
set_option maxRecDepth 100000 in
theorem k_c68 : lw_tbl[1641]? = some (.code (x_Mf kML 68).1 (x_Mf kML 68).2.1 (x_Mf kML 68).2.2.1 (x_Mf kML 68).2.2.2) := by rfl
set_option maxRecDepth 100000 in
theorem k_c69 : lw_tbl[1637]? = some (.code (x_Mf kML 69).1 (x_Mf kML 69).2.1 (x_Mf kML 69).2.2.1 (x_Mf kML 69).2.2.2) := by rfl
set_option maxRecDepth 100000 in
theorem k_c70 : lw_tbl[1633]? = some (.code (x_Mf kML 70).1 (x_Mf kML 70).2.1 (x_Mf kML 70).2.2.1 (x_Mf kML 70).2.2.2) := by rfl
set_option maxRecDepth 100000 in
theorem k_c71 : lw_tbl[1629]? = some (.code (x_Mf kML 71).1 (x_Mf kML 71).2.1 (x_Mf kML 71).2.2.1 (x_Mf kML 71).2.2.2) := by rfl
set_option maxRecDepth 100000 in
theorem k_c72 : lw_tbl[1645]? = some (.code (x_Mf kML 72).1 (x_Mf kML 72).2.1 (x_Mf kML 72).2.2.1 (x_Mf kML 72).2.2.2) := by rfl
set_option maxRecDepth 100000 in
theorem k_c73 : lw_tbl[1654]? = some (.code (x_Mf kML 73).1 (x_Mf kML 73).2.1 (x_Mf kML 73).2.2.1 (x_Mf kML 73).2.2.2) := by rfl
set_option maxRecDepth 100000 in
theorem k_c74 : lw_tbl[1658]? = some (.code (x_Mf kML 74).1 (x_Mf kML 74).2.1 (x_Mf kML 74).2.2.1 (x_Mf kML 74).2.2.2) := by rfl
set_option maxRecDepth 100000 in
theorem k_c75 : lw_tbl[1649]? = some (.code (x_Mf kML 75).1 (x_Mf kML 75).2.1 (x_Mf kML 75).2.2.1 (x_Mf kML 75).2.2.2) := by rfl
set_option maxRecDepth 100000 in
theorem k_c76 : lw_tbl[1670]? = some (.code (x_Mf kML 76).1 (x_Mf kML 76).2.1 (x_Mf kML 76).2.2.1 (x_Mf kML 76).2.2.2) := by rfl
set_option maxRecDepth 100000 in
theorem k_c77 : lw_tbl[1666]? = some (.code (x_Mf kML 77).1 (x_Mf kML 77).2.1 (x_Mf kML 77).2.2.1 (x_Mf kML 77).2.2.2) := by rfl
set_option maxRecDepth 100000 in
theorem k_c78 : lw_tbl[1662]? = some (.code (x_Mf kML 78).1 (x_Mf kML 78).2.1 (x_Mf kML 78).2.2.1 (x_Mf kML 78).2.2.2) := by rfl
set_option maxRecDepth 100000 in
theorem k_c79 : lw_tbl[1674]? = some (.code (x_Mf kML 79).1 (x_Mf kML 79).2.1 (x_Mf kML 79).2.2.1 (x_Mf kML 79).2.2.2) := by rfl
set_option maxRecDepth 100000 in
theorem k_c80 : lw_tbl[1682]? = some (.code (x_Mf kML 80).1 (x_Mf kML 80).2.1 (x_Mf kML 80).2.2.1 (x_Mf kML 80).2.2.2) := by rfl
set_option maxRecDepth 100000 in
theorem k_c81 : lw_tbl[1690]? = some (.code (x_Mf kML 81).1 (x_Mf kML 81).2.1 (x_Mf kML 81).2.2.1 (x_Mf kML 81).2.2.2) := by rfl
set_option maxRecDepth 100000 in
theorem k_c82 : lw_tbl[1686]? = some (.code (x_Mf kML 82).1 (x_Mf kML 82).2.1 (x_Mf kML 82).2.2.1 (x_Mf kML 82).2.2.2) := by rfl
set_option maxRecDepth 100000 in
theorem k_c83 : lw_tbl[1678]? = some (.code (x_Mf kML 83).1 (x_Mf kML 83).2.1 (x_Mf kML 83).2.2.1 (x_Mf kML 83).2.2.2) := by rfl
set_option maxRecDepth 100000 in
theorem k_c84 : lw_tbl[1694]? = some (.code (x_Mf kML 84).1 (x_Mf kML 84).2.1 (x_Mf kML 84).2.2.1 (x_Mf kML 84).2.2.2) := by rfl
set_option maxRecDepth 100000 in
theorem k_c85 : lw_tbl[371]? = some (.code (x_Mf kML 85).1 (x_Mf kML 85).2.1 (x_Mf kML 85).2.2.1 (x_Mf kML 85).2.2.2) := by rfl
set_option maxRecDepth 100000 in
theorem k_c86 : lw_tbl[204]? = some (.code (x_Mf kML 86).1 (x_Mf kML 86).2.1 (x_Mf kML 86).2.2.1 (x_Mf kML 86).2.2.2) := by rfl
set_option maxRecDepth 100000 in
theorem k_c88 : lw_tbl[476]? = some (.code (x_Mf kML 88).1 (x_Mf kML 88).2.1 (x_Mf kML 88).2.2.1 (x_Mf kML 88).2.2.2) := by rfl
set_option maxRecDepth 100000 in
theorem k_c89 : lw_tbl[1127]? = some (.code (x_Mf kML 89).1 (x_Mf kML 89).2.1 (x_Mf kML 89).2.2.1 (x_Mf kML 89).2.2.2) := by rfl
set_option maxRecDepth 100000 in
theorem k_c90 : lw_tbl[1152]? = some (.code (x_Mf kML 90).1 (x_Mf kML 90).2.1 (x_Mf kML 90).2.2.1 (x_Mf kML 90).2.2.2) := by rfl
set_option maxRecDepth 100000 in
theorem k_c91 : lw_tbl[1138]? = some (.code (x_Mf kML 91).1 (x_Mf kML 91).2.1 (x_Mf kML 91).2.2.1 (x_Mf kML 91).2.2.2) := by rfl
set_option maxRecDepth 100000 in
theorem k_c92 : lw_tbl[1143]? = some (.code (x_Mf kML 92).1 (x_Mf kML 92).2.1 (x_Mf kML 92).2.2.1 (x_Mf kML 92).2.2.2) := by rfl
set_option maxRecDepth 100000 in
theorem k_c93 : lw_tbl[450]? = some (.code (x_Mf kML 93).1 (x_Mf kML 93).2.1 (x_Mf kML 93).2.2.1 (x_Mf kML 93).2.2.2) := by rfl
set_option maxRecDepth 100000 in
theorem k_c94 : lw_tbl[1074]? = some (.code (x_Mf kML 94).1 (x_Mf kML 94).2.1 (x_Mf kML 94).2.2.1 (x_Mf kML 94).2.2.2) := by rfl
set_option maxRecDepth 100000 in
theorem k_c95 : lw_tbl[1080]? = some (.code (x_Mf kML 95).1 (x_Mf kML 95).2.1 (x_Mf kML 95).2.2.1 (x_Mf kML 95).2.2.2) := by rfl
set_option maxRecDepth 100000 in
theorem k_c96 : lw_tbl[1094]? = some (.code (x_Mf kML 96).1 (x_Mf kML 96).2.1 (x_Mf kML 96).2.2.1 (x_Mf kML 96).2.2.2) := by rfl
set_option maxRecDepth 100000 in
theorem k_c97 : lw_tbl[129]? = some (.code (x_Mf kML 97).1 (x_Mf kML 97).2.1 (x_Mf kML 97).2.2.1 (x_Mf kML 97).2.2.2) := by rfl
set_option maxRecDepth 100000 in
theorem k_c98 : lw_tbl[557]? = some (.code (x_Mf kML 98).1 (x_Mf kML 98).2.1 (x_Mf kML 98).2.2.1 (x_Mf kML 98).2.2.2) := by rfl
set_option maxRecDepth 100000 in
theorem k_c99 : lw_tbl[565]? = some (.code (x_Mf kML 99).1 (x_Mf kML 99).2.1 (x_Mf kML 99).2.2.1 (x_Mf kML 99).2.2.2) := by rfl
set_option maxRecDepth 100000 in
theorem k_c100 : lw_tbl[569]? = some (.code (x_Mf kML 100).1 (x_Mf kML 100).2.1 (x_Mf kML 100).2.2.1 (x_Mf kML 100).2.2.2) := by rfl
set_option maxRecDepth 100000 in
theorem k_c101 : lw_tbl[859]? = some (.code (x_Mf kML 101).1 (x_Mf kML 101).2.1 (x_Mf kML 101).2.2.1 (x_Mf kML 101).2.2.2) := by rfl
set_option maxRecDepth 100000 in
theorem k_c102 : lw_tbl[888]? = some (.code (x_Mf kML 102).1 (x_Mf kML 102).2.1 (x_Mf kML 102).2.2.1 (x_Mf kML 102).2.2.2) := by rfl
set_option maxRecDepth 100000 in
theorem k_c103 : lw_tbl[960]? = some (.code (x_Mf kML 103).1 (x_Mf kML 103).2.1 (x_Mf kML 103).2.2.1 (x_Mf kML 103).2.2.2) := by rfl
set_option maxRecDepth 100000 in
theorem k_c104 : lw_tbl[1160]? = some (.code (x_Mf kML 104).1 (x_Mf kML 104).2.1 (x_Mf kML 104).2.2.1 (x_Mf kML 104).2.2.2) := by rfl
set_option maxRecDepth 100000 in
theorem k_c105 : lw_tbl[1026]? = some (.code (x_Mf kML 105).1 (x_Mf kML 105).2.1 (x_Mf kML 105).2.2.1 (x_Mf kML 105).2.2.2) := by rfl
set_option maxRecDepth 100000 in
theorem k_c106 : lw_tbl[894]? = some (.code (x_Mf kML 106).1 (x_Mf kML 106).2.1 (x_Mf kML 106).2.2.1 (x_Mf kML 106).2.2.2) := by rfl
set_option maxRecDepth 100000 in
theorem k_c107 : lw_tbl[952]? = some (.code (x_Mf kML 107).1 (x_Mf kML 107).2.1 (x_Mf kML 107).2.2.1 (x_Mf kML 107).2.2.2) := by rfl
set_option maxRecDepth 100000 in
theorem k_c108 : lw_tbl[943]? = some (.code (x_Mf kML 108).1 (x_Mf kML 108).2.1 (x_Mf kML 108).2.2.1 (x_Mf kML 108).2.2.2) := by rfl
set_option maxRecDepth 100000 in
theorem k_c109 : lw_tbl[1176]? = some (.code (x_Mf kML 109).1 (x_Mf kML 109).2.1 (x_Mf kML 109).2.2.1 (x_Mf kML 109).2.2.2) := by rfl
set_option maxRecDepth 100000 in
theorem k_c110 : lw_tbl[177]? = some (.code (x_Mf kML 110).1 (x_Mf kML 110).2.1 (x_Mf kML 110).2.2.1 (x_Mf kML 110).2.2.2) := by rfl
set_option maxRecDepth 100000 in
theorem k_c111 : lw_tbl[598]? = some (.code (x_Mf kML 111).1 (x_Mf kML 111).2.1 (x_Mf kML 111).2.2.1 (x_Mf kML 111).2.2.2) := by rfl
set_option maxRecDepth 100000 in
theorem k_c112 : lw_tbl[762]? = some (.code (x_Mf kML 112).1 (x_Mf kML 112).2.1 (x_Mf kML 112).2.2.1 (x_Mf kML 112).2.2.2) := by rfl
set_option maxRecDepth 100000 in
theorem k_c113 : lw_tbl[869]? = some (.code (x_Mf kML 113).1 (x_Mf kML 113).2.1 (x_Mf kML 113).2.2.1 (x_Mf kML 113).2.2.2) := by rfl
set_option maxRecDepth 100000 in
theorem k_c114 : lw_tbl[770]? = some (.code (x_Mf kML 114).1 (x_Mf kML 114).2.1 (x_Mf kML 114).2.2.1 (x_Mf kML 114).2.2.2) := by rfl
set_option maxRecDepth 100000 in
theorem k_c115 : lw_tbl[786]? = some (.code (x_Mf kML 115).1 (x_Mf kML 115).2.1 (x_Mf kML 115).2.2.1 (x_Mf kML 115).2.2.2) := by rfl
set_option maxRecDepth 100000 in
theorem k_c116 : lw_tbl[790]? = some (.code (x_Mf kML 116).1 (x_Mf kML 116).2.1 (x_Mf kML 116).2.2.1 (x_Mf kML 116).2.2.2) := by rfl
set_option maxRecDepth 100000 in
theorem k_c117 : lw_tbl[920]? = some (.code (x_Mf kML 117).1 (x_Mf kML 117).2.1 (x_Mf kML 117).2.2.1 (x_Mf kML 117).2.2.2) := by rfl
set_option maxRecDepth 100000 in
theorem k_c118 : lw_tbl[916]? = some (.code (x_Mf kML 118).1 (x_Mf kML 118).2.1 (x_Mf kML 118).2.2.1 (x_Mf kML 118).2.2.2) := by rfl
set_option maxRecDepth 100000 in
theorem k_c119 : lw_tbl[1016]? = some (.code (x_Mf kML 119).1 (x_Mf kML 119).2.1 (x_Mf kML 119).2.2.1 (x_Mf kML 119).2.2.2) := by rfl
set_option maxRecDepth 100000 in
theorem k_c120 : lw_tbl[1020]? = some (.code (x_Mf kML 120).1 (x_Mf kML 120).2.1 (x_Mf kML 120).2.2.1 (x_Mf kML 120).2.2.2) := by rfl
set_option maxRecDepth 100000 in
theorem k_c121 : lw_tbl[924]? = some (.code (x_Mf kML 121).1 (x_Mf kML 121).2.1 (x_Mf kML 121).2.2.1 (x_Mf kML 121).2.2.2) := by rfl
set_option maxRecDepth 100000 in
theorem k_c122 : lw_tbl[304]? = some (.code (x_Mf kML 122).1 (x_Mf kML 122).2.1 (x_Mf kML 122).2.2.1 (x_Mf kML 122).2.2.2) := by rfl
set_option maxRecDepth 100000 in
theorem k_c123 : lw_tbl[594]? = some (.code (x_Mf kML 123).1 (x_Mf kML 123).2.1 (x_Mf kML 123).2.2.1 (x_Mf kML 123).2.2.2) := by rfl
set_option maxRecDepth 100000 in
theorem k_c124 : lw_tbl[602]? = some (.code (x_Mf kML 124).1 (x_Mf kML 124).2.1 (x_Mf kML 124).2.2.1 (x_Mf kML 124).2.2.2) := by rfl
set_option maxRecDepth 100000 in
theorem k_c125 : lw_tbl[613]? = some (.code (x_Mf kML 125).1 (x_Mf kML 125).2.1 (x_Mf kML 125).2.2.1 (x_Mf kML 125).2.2.2) := by rfl
set_option maxRecDepth 100000 in
theorem k_c126 : lw_tbl[623]? = some (.code (x_Mf kML 126).1 (x_Mf kML 126).2.1 (x_Mf kML 126).2.2.1 (x_Mf kML 126).2.2.2) := by rfl
set_option maxRecDepth 100000 in
theorem k_c127 : lw_tbl[627]? = some (.code (x_Mf kML 127).1 (x_Mf kML 127).2.1 (x_Mf kML 127).2.2.1 (x_Mf kML 127).2.2.2) := by rfl
set_option maxRecDepth 100000 in
theorem k_c128 : lw_tbl[642]? = some (.code (x_Mf kML 128).1 (x_Mf kML 128).2.1 (x_Mf kML 128).2.2.1 (x_Mf kML 128).2.2.2) := by rfl
set_option maxRecDepth 100000 in
theorem k_c129 : lw_tbl[750]? = some (.code (x_Mf kML 129).1 (x_Mf kML 129).2.1 (x_Mf kML 129).2.2.1 (x_Mf kML 129).2.2.2) := by rfl
set_option maxRecDepth 100000 in
theorem k_c130 : lw_tbl[746]? = some (.code (x_Mf kML 130).1 (x_Mf kML 130).2.1 (x_Mf kML 130).2.2.1 (x_Mf kML 130).2.2.2) := by rfl
set_option maxRecDepth 100000 in
theorem k_c131 : lw_tbl[742]? = some (.code (x_Mf kML 131).1 (x_Mf kML 131).2.1 (x_Mf kML 131).2.2.1 (x_Mf kML 131).2.2.2) := by rfl
set_option maxRecDepth 100000 in
theorem k_c132 : lw_tbl[774]? = some (.code (x_Mf kML 132).1 (x_Mf kML 132).2.1 (x_Mf kML 132).2.2.1 (x_Mf kML 132).2.2.2) := by rfl
set_option maxRecDepth 100000 in
theorem k_c133 : lw_tbl[778]? = some (.code (x_Mf kML 133).1 (x_Mf kML 133).2.1 (x_Mf kML 133).2.2.1 (x_Mf kML 133).2.2.2) := by rfl
set_option maxRecDepth 100000 in
theorem k_c134 : lw_tbl[782]? = some (.code (x_Mf kML 134).1 (x_Mf kML 134).2.1 (x_Mf kML 134).2.2.1 (x_Mf kML 134).2.2.2) := by rfl
set_option maxRecDepth 100000 in
theorem k_c135 : lw_tbl[754]? = some (.code (x_Mf kML 135).1 (x_Mf kML 135).2.1 (x_Mf kML 135).2.2.1 (x_Mf kML 135).2.2.2) := by rfl
set_option maxRecDepth 100000 in
theorem k_c136 : lw_tbl[758]? = some (.code (x_Mf kML 136).1 (x_Mf kML 136).2.1 (x_Mf kML 136).2.2.1 (x_Mf kML 136).2.2.2) := by rfl
set_option maxRecDepth 100000 in
theorem k_c137 : lw_tbl[766]? = some (.code (x_Mf kML 137).1 (x_Mf kML 137).2.1 (x_Mf kML 137).2.2.1 (x_Mf kML 137).2.2.2) := by rfl
set_option maxRecDepth 100000 in
theorem k_c138 : lw_tbl[366]? = some (.code (x_Mf kML 138).1 (x_Mf kML 138).2.1 (x_Mf kML 138).2.2.1 (x_Mf kML 138).2.2.2) := by rfl
set_option maxRecDepth 100000 in
theorem k_c139 : lw_tbl[801]? = some (.code (x_Mf kML 139).1 (x_Mf kML 139).2.1 (x_Mf kML 139).2.2.1 (x_Mf kML 139).2.2.2) := by rfl
set_option maxRecDepth 100000 in
theorem k_c140 : lw_tbl[855]? = some (.code (x_Mf kML 140).1 (x_Mf kML 140).2.1 (x_Mf kML 140).2.2.1 (x_Mf kML 140).2.2.2) := by rfl
set_option maxRecDepth 100000 in
theorem k_c141 : lw_tbl[1147]? = some (.code (x_Mf kML 141).1 (x_Mf kML 141).2.1 (x_Mf kML 141).2.2.1 (x_Mf kML 141).2.2.2) := by rfl
set_option maxRecDepth 100000 in
theorem k_c142 : lw_tbl[879]? = some (.code (x_Mf kML 142).1 (x_Mf kML 142).2.1 (x_Mf kML 142).2.2.1 (x_Mf kML 142).2.2.2) := by rfl
set_option maxRecDepth 100000 in
theorem k_c143 : lw_tbl[865]? = some (.code (x_Mf kML 143).1 (x_Mf kML 143).2.1 (x_Mf kML 143).2.2.1 (x_Mf kML 143).2.2.2) := by rfl
set_option maxRecDepth 100000 in
theorem k_c144 : lw_tbl[902]? = some (.code (x_Mf kML 144).1 (x_Mf kML 144).2.1 (x_Mf kML 144).2.2.1 (x_Mf kML 144).2.2.2) := by rfl
set_option maxRecDepth 100000 in
theorem k_c145 : lw_tbl[1012]? = some (.code (x_Mf kML 145).1 (x_Mf kML 145).2.1 (x_Mf kML 145).2.2.1 (x_Mf kML 145).2.2.2) := by rfl
set_option maxRecDepth 100000 in
theorem k_c146 : lw_tbl[906]? = some (.code (x_Mf kML 146).1 (x_Mf kML 146).2.1 (x_Mf kML 146).2.2.1 (x_Mf kML 146).2.2.2) := by rfl
set_option maxRecDepth 100000 in
theorem k_c147 : lw_tbl[930]? = some (.code (x_Mf kML 147).1 (x_Mf kML 147).2.1 (x_Mf kML 147).2.2.1 (x_Mf kML 147).2.2.2) := by rfl
set_option maxRecDepth 100000 in
theorem k_c148 : lw_tbl[909]? = some (.code (x_Mf kML 148).1 (x_Mf kML 148).2.1 (x_Mf kML 148).2.2.1 (x_Mf kML 148).2.2.2) := by rfl
set_option maxRecDepth 100000 in
theorem k_c149 : lw_tbl[912]? = some (.code (x_Mf kML 149).1 (x_Mf kML 149).2.1 (x_Mf kML 149).2.2.1 (x_Mf kML 149).2.2.2) := by rfl
set_option maxRecDepth 100000 in
theorem k_c150 : lw_tbl[968]? = some (.code (x_Mf kML 150).1 (x_Mf kML 150).2.1 (x_Mf kML 150).2.2.1 (x_Mf kML 150).2.2.2) := by rfl
set_option maxRecDepth 100000 in
theorem k_c151 : lw_tbl[964]? = some (.code (x_Mf kML 151).1 (x_Mf kML 151).2.1 (x_Mf kML 151).2.2.1 (x_Mf kML 151).2.2.2) := by rfl
set_option maxRecDepth 100000 in
theorem k_c152 : lw_tbl[1043]? = some (.code (x_Mf kML 152).1 (x_Mf kML 152).2.1 (x_Mf kML 152).2.2.1 (x_Mf kML 152).2.2.2) := by rfl
set_option maxRecDepth 100000 in
theorem k_c153 : lw_tbl[1102]? = some (.code (x_Mf kML 153).1 (x_Mf kML 153).2.1 (x_Mf kML 153).2.2.1 (x_Mf kML 153).2.2.2) := by rfl
set_option maxRecDepth 100000 in
theorem k_c154 : lw_tbl[1113]? = some (.code (x_Mf kML 154).1 (x_Mf kML 154).2.1 (x_Mf kML 154).2.2.1 (x_Mf kML 154).2.2.2) := by rfl
set_option maxRecDepth 100000 in
theorem k_c155 : lw_tbl[1119]? = some (.code (x_Mf kML 155).1 (x_Mf kML 155).2.1 (x_Mf kML 155).2.2.1 (x_Mf kML 155).2.2.2) := by rfl
set_option maxRecDepth 100000 in
theorem k_c156 : lw_tbl[851]? = some (.code (x_Mf kML 156).1 (x_Mf kML 156).2.1 (x_Mf kML 156).2.2.1 (x_Mf kML 156).2.2.2) := by rfl
set_option maxRecDepth 100000 in
theorem k_c157 : lw_tbl[884]? = some (.code (x_Mf kML 157).1 (x_Mf kML 157).2.1 (x_Mf kML 157).2.2.1 (x_Mf kML 157).2.2.2) := by rfl
set_option maxRecDepth 100000 in
theorem k_c158 : lw_tbl[898]? = some (.code (x_Mf kML 158).1 (x_Mf kML 158).2.1 (x_Mf kML 158).2.2.1 (x_Mf kML 158).2.2.2) := by rfl
set_option maxRecDepth 100000 in
theorem k_c159 : lw_tbl[403]? = some (.code (x_Mf kML 159).1 (x_Mf kML 159).2.1 (x_Mf kML 159).2.2.1 (x_Mf kML 159).2.2.2) := by rfl
set_option maxRecDepth 100000 in
theorem k_c160 : lw_tbl[996]? = some (.code (x_Mf kML 160).1 (x_Mf kML 160).2.1 (x_Mf kML 160).2.2.1 (x_Mf kML 160).2.2.2) := by rfl
set_option maxRecDepth 100000 in
theorem k_c161 : lw_tbl[1066]? = some (.code (x_Mf kML 161).1 (x_Mf kML 161).2.1 (x_Mf kML 161).2.2.1 (x_Mf kML 161).2.2.2) := by rfl
set_option maxRecDepth 100000 in
theorem k_c162 : lw_tbl[1008]? = some (.code (x_Mf kML 162).1 (x_Mf kML 162).2.1 (x_Mf kML 162).2.2.1 (x_Mf kML 162).2.2.2) := by rfl
set_option maxRecDepth 100000 in
theorem k_c163 : lw_tbl[1053]? = some (.code (x_Mf kML 163).1 (x_Mf kML 163).2.1 (x_Mf kML 163).2.2.1 (x_Mf kML 163).2.2.2) := by rfl
set_option maxRecDepth 100000 in
theorem k_c164 : lw_tbl[1062]? = some (.code (x_Mf kML 164).1 (x_Mf kML 164).2.1 (x_Mf kML 164).2.2.1 (x_Mf kML 164).2.2.2) := by rfl
set_option maxRecDepth 100000 in
theorem k_c165 : lw_tbl[1038]? = some (.code (x_Mf kML 165).1 (x_Mf kML 165).2.1 (x_Mf kML 165).2.2.1 (x_Mf kML 165).2.2.2) := by rfl
set_option maxRecDepth 100000 in
theorem k_c166 : lw_tbl[1030]? = some (.code (x_Mf kML 166).1 (x_Mf kML 166).2.1 (x_Mf kML 166).2.2.1 (x_Mf kML 166).2.2.2) := by rfl
set_option maxRecDepth 100000 in
theorem k_c167 : lw_tbl[1048]? = some (.code (x_Mf kML 167).1 (x_Mf kML 167).2.1 (x_Mf kML 167).2.2.1 (x_Mf kML 167).2.2.2) := by rfl
set_option maxRecDepth 100000 in
theorem k_c168 : lw_tbl[1058]? = some (.code (x_Mf kML 168).1 (x_Mf kML 168).2.1 (x_Mf kML 168).2.2.1 (x_Mf kML 168).2.2.2) := by rfl
set_option maxRecDepth 100000 in
theorem k_c169 : lw_tbl[135]? = some (.code (x_Mf kML 169).1 (x_Mf kML 169).2.1 (x_Mf kML 169).2.2.1 (x_Mf kML 169).2.2.2) := by rfl
set_option maxRecDepth 100000 in
theorem k_c170 : lw_tbl[939]? = some (.code (x_Mf kML 170).1 (x_Mf kML 170).2.1 (x_Mf kML 170).2.2.1 (x_Mf kML 170).2.2.2) := by rfl
set_option maxRecDepth 100000 in
theorem k_c171 : lw_tbl[606]? = some (.code (x_Mf kML 171).1 (x_Mf kML 171).2.1 (x_Mf kML 171).2.2.1 (x_Mf kML 171).2.2.2) := by rfl
set_option maxRecDepth 100000 in
theorem k_c172 : lw_tbl[935]? = some (.code (x_Mf kML 172).1 (x_Mf kML 172).2.1 (x_Mf kML 172).2.2.1 (x_Mf kML 172).2.2.2) := by rfl
set_option maxRecDepth 100000 in
theorem k_c173 : lw_tbl[582]? = some (.code (x_Mf kML 173).1 (x_Mf kML 173).2.1 (x_Mf kML 173).2.2.1 (x_Mf kML 173).2.2.2) := by rfl
set_option maxRecDepth 100000 in
theorem k_c174 : lw_tbl[1002]? = some (.code (x_Mf kML 174).1 (x_Mf kML 174).2.1 (x_Mf kML 174).2.2.1 (x_Mf kML 174).2.2.2) := by rfl
set_option maxRecDepth 100000 in
theorem k_c175 : lw_tbl[1134]? = some (.code (x_Mf kML 175).1 (x_Mf kML 175).2.1 (x_Mf kML 175).2.2.1 (x_Mf kML 175).2.2.2) := by rfl
set_option maxRecDepth 100000 in
theorem k_c176 : lw_tbl[340]? = some (.code (x_Mf kML 176).1 (x_Mf kML 176).2.1 (x_Mf kML 176).2.2.1 (x_Mf kML 176).2.2.2) := by rfl
set_option maxRecDepth 100000 in
theorem k_c177 : lw_tbl[842]? = some (.code (x_Mf kML 177).1 (x_Mf kML 177).2.1 (x_Mf kML 177).2.2.1 (x_Mf kML 177).2.2.2) := by rfl
set_option maxRecDepth 100000 in
theorem k_c178 : lw_tbl[846]? = some (.code (x_Mf kML 178).1 (x_Mf kML 178).2.1 (x_Mf kML 178).2.2.1 (x_Mf kML 178).2.2.2) := by rfl
set_option maxRecDepth 100000 in
theorem k_c179 : lw_tbl[1168]? = some (.code (x_Mf kML 179).1 (x_Mf kML 179).2.1 (x_Mf kML 179).2.2.1 (x_Mf kML 179).2.2.2) := by rfl
set_option maxRecDepth 100000 in
theorem k_c180 : lw_tbl[159]? = some (.code (x_Mf kML 180).1 (x_Mf kML 180).2.1 (x_Mf kML 180).2.2.1 (x_Mf kML 180).2.2.2) := by rfl
set_option maxRecDepth 100000 in
theorem k_c181 : lw_tbl[827]? = some (.code (x_Mf kML 181).1 (x_Mf kML 181).2.1 (x_Mf kML 181).2.2.1 (x_Mf kML 181).2.2.2) := by rfl
set_option maxRecDepth 100000 in
theorem k_c182 : lw_tbl[1085]? = some (.code (x_Mf kML 182).1 (x_Mf kML 182).2.1 (x_Mf kML 182).2.2.1 (x_Mf kML 182).2.2.2) := by rfl
set_option maxRecDepth 100000 in
theorem k_c183 : lw_tbl[1089]? = some (.code (x_Mf kML 183).1 (x_Mf kML 183).2.1 (x_Mf kML 183).2.2.1 (x_Mf kML 183).2.2.2) := by rfl
set_option maxRecDepth 100000 in
theorem k_c184 : lw_tbl[1182]? = some (.code (x_Mf kML 184).1 (x_Mf kML 184).2.1 (x_Mf kML 184).2.2.1 (x_Mf kML 184).2.2.2) := by rfl
set_option maxRecDepth 100000 in
theorem k_c185 : lw_tbl[121]? = some (.code (x_Mf kML 185).1 (x_Mf kML 185).2.1 (x_Mf kML 185).2.2.1 (x_Mf kML 185).2.2.2) := by rfl
set_option maxRecDepth 100000 in
theorem k_c186 : lw_tbl[530]? = some (.code (x_Mf kML 186).1 (x_Mf kML 186).2.1 (x_Mf kML 186).2.2.1 (x_Mf kML 186).2.2.2) := by rfl
set_option maxRecDepth 100000 in
theorem k_c187 : lw_tbl[534]? = some (.code (x_Mf kML 187).1 (x_Mf kML 187).2.1 (x_Mf kML 187).2.2.1 (x_Mf kML 187).2.2.2) := by rfl
set_option maxRecDepth 100000 in
theorem k_c188 : lw_tbl[550]? = some (.code (x_Mf kML 188).1 (x_Mf kML 188).2.1 (x_Mf kML 188).2.2.1 (x_Mf kML 188).2.2.2) := by rfl
set_option maxRecDepth 100000 in
theorem k_c189 : lw_tbl[561]? = some (.code (x_Mf kML 189).1 (x_Mf kML 189).2.1 (x_Mf kML 189).2.2.1 (x_Mf kML 189).2.2.2) := by rfl
set_option maxRecDepth 100000 in
theorem k_c190 : lw_tbl[574]? = some (.code (x_Mf kML 190).1 (x_Mf kML 190).2.1 (x_Mf kML 190).2.2.1 (x_Mf kML 190).2.2.2) := by rfl
set_option maxRecDepth 100000 in
theorem k_c191 : lw_tbl[586]? = some (.code (x_Mf kML 191).1 (x_Mf kML 191).2.1 (x_Mf kML 191).2.2.1 (x_Mf kML 191).2.2.2) := by rfl
set_option maxRecDepth 100000 in
theorem k_c192 : lw_tbl[590]? = some (.code (x_Mf kML 192).1 (x_Mf kML 192).2.1 (x_Mf kML 192).2.2.1 (x_Mf kML 192).2.2.2) := by rfl
set_option maxRecDepth 100000 in
theorem k_c193 : lw_tbl[806]? = some (.code (x_Mf kML 193).1 (x_Mf kML 193).2.1 (x_Mf kML 193).2.2.1 (x_Mf kML 193).2.2.2) := by rfl
set_option maxRecDepth 100000 in
theorem k_c194 : lw_tbl[810]? = some (.code (x_Mf kML 194).1 (x_Mf kML 194).2.1 (x_Mf kML 194).2.2.1 (x_Mf kML 194).2.2.2) := by rfl
set_option maxRecDepth 100000 in
theorem k_c195 : lw_tbl[823]? = some (.code (x_Mf kML 195).1 (x_Mf kML 195).2.1 (x_Mf kML 195).2.2.1 (x_Mf kML 195).2.2.2) := by rfl
set_option maxRecDepth 100000 in
theorem k_c196 : lw_tbl[834]? = some (.code (x_Mf kML 196).1 (x_Mf kML 196).2.1 (x_Mf kML 196).2.2.1 (x_Mf kML 196).2.2.2) := by rfl
set_option maxRecDepth 100000 in
theorem k_c197 : lw_tbl[838]? = some (.code (x_Mf kML 197).1 (x_Mf kML 197).2.1 (x_Mf kML 197).2.2.1 (x_Mf kML 197).2.2.2) := by rfl
set_option maxRecDepth 100000 in
theorem k_c198 : lw_tbl[948]? = some (.code (x_Mf kML 198).1 (x_Mf kML 198).2.1 (x_Mf kML 198).2.2.1 (x_Mf kML 198).2.2.2) := by rfl
set_option maxRecDepth 100000 in
theorem k_c199 : lw_tbl[956]? = some (.code (x_Mf kML 199).1 (x_Mf kML 199).2.1 (x_Mf kML 199).2.2.1 (x_Mf kML 199).2.2.2) := by rfl
set_option maxRecDepth 100000 in
theorem k_c200 : lw_tbl[972]? = some (.code (x_Mf kML 200).1 (x_Mf kML 200).2.1 (x_Mf kML 200).2.2.1 (x_Mf kML 200).2.2.2) := by rfl
set_option maxRecDepth 100000 in
theorem k_c201 : lw_tbl[976]? = some (.code (x_Mf kML 201).1 (x_Mf kML 201).2.1 (x_Mf kML 201).2.2.1 (x_Mf kML 201).2.2.2) := by rfl
set_option maxRecDepth 100000 in
theorem k_c202 : lw_tbl[981]? = some (.code (x_Mf kML 202).1 (x_Mf kML 202).2.1 (x_Mf kML 202).2.2.1 (x_Mf kML 202).2.2.2) := by rfl
set_option maxRecDepth 100000 in
theorem k_c203 : lw_tbl[988]? = some (.code (x_Mf kML 203).1 (x_Mf kML 203).2.1 (x_Mf kML 203).2.2.1 (x_Mf kML 203).2.2.2) := by rfl
set_option maxRecDepth 100000 in
theorem k_c204 : lw_tbl[992]? = some (.code (x_Mf kML 204).1 (x_Mf kML 204).2.1 (x_Mf kML 204).2.2.1 (x_Mf kML 204).2.2.2) := by rfl
set_option maxRecDepth 100000 in
theorem k_c205 : lw_tbl[1070]? = some (.code (x_Mf kML 205).1 (x_Mf kML 205).2.1 (x_Mf kML 205).2.2.1 (x_Mf kML 205).2.2.2) := by rfl
set_option maxRecDepth 100000 in
theorem k_c206 : lw_tbl[1098]? = some (.code (x_Mf kML 206).1 (x_Mf kML 206).2.1 (x_Mf kML 206).2.2.1 (x_Mf kML 206).2.2.2) := by rfl
set_option maxRecDepth 100000 in
theorem k_c207 : lw_tbl[1108]? = some (.code (x_Mf kML 207).1 (x_Mf kML 207).2.1 (x_Mf kML 207).2.2.1 (x_Mf kML 207).2.2.2) := by rfl
set_option maxRecDepth 100000 in
theorem k_c208 : lw_tbl[1123]? = some (.code (x_Mf kML 208).1 (x_Mf kML 208).2.1 (x_Mf kML 208).2.2.1 (x_Mf kML 208).2.2.2) := by rfl
set_option maxRecDepth 100000 in
theorem k_c209 : lw_tbl[1156]? = some (.code (x_Mf kML 209).1 (x_Mf kML 209).2.1 (x_Mf kML 209).2.2.1 (x_Mf kML 209).2.2.2) := by rfl
set_option maxRecDepth 100000 in
theorem k_c210 : lw_tbl[1164]? = some (.code (x_Mf kML 210).1 (x_Mf kML 210).2.1 (x_Mf kML 210).2.2.1 (x_Mf kML 210).2.2.2) := by rfl
set_option maxRecDepth 100000 in
theorem k_c211 : lw_tbl[1172]? = some (.code (x_Mf kML 211).1 (x_Mf kML 211).2.1 (x_Mf kML 211).2.2.1 (x_Mf kML 211).2.2.2) := by rfl
set_option maxRecDepth 100000 in
theorem k_c212 : lw_tbl[1188]? = some (.code (x_Mf kML 212).1 (x_Mf kML 212).2.1 (x_Mf kML 212).2.2.1 (x_Mf kML 212).2.2.2) := by rfl
set_option maxRecDepth 100000 in
theorem k_c213 : lw_tbl[542]? = some (.code (x_Mf kML 213).1 (x_Mf kML 213).2.1 (x_Mf kML 213).2.2.1 (x_Mf kML 213).2.2.2) := by rfl
set_option maxRecDepth 100000 in
theorem k_c214 : lw_tbl[797]? = some (.code (x_Mf kML 214).1 (x_Mf kML 214).2.1 (x_Mf kML 214).2.2.1 (x_Mf kML 214).2.2.2) := by rfl
set_option maxRecDepth 100000 in
theorem k_c215 : lw_tbl[546]? = some (.code (x_Mf kML 215).1 (x_Mf kML 215).2.1 (x_Mf kML 215).2.2.1 (x_Mf kML 215).2.2.2) := by rfl
set_option maxRecDepth 100000 in
theorem k_c216 : lw_tbl[814]? = some (.code (x_Mf kML 216).1 (x_Mf kML 216).2.1 (x_Mf kML 216).2.2.1 (x_Mf kML 216).2.2.2) := by rfl
set_option maxRecDepth 100000 in
theorem k_c217 : lw_tbl[578]? = some (.code (x_Mf kML 217).1 (x_Mf kML 217).2.1 (x_Mf kML 217).2.2.1 (x_Mf kML 217).2.2.2) := by rfl
set_option maxRecDepth 100000 in
theorem k_c218 : lw_tbl[538]? = some (.code (x_Mf kML 218).1 (x_Mf kML 218).2.1 (x_Mf kML 218).2.2.1 (x_Mf kML 218).2.2.2) := by rfl
set_option maxRecDepth 100000 in
theorem k_c219 : lw_tbl[553]? = some (.code (x_Mf kML 219).1 (x_Mf kML 219).2.1 (x_Mf kML 219).2.2.1 (x_Mf kML 219).2.2.2) := by rfl
set_option maxRecDepth 100000 in
theorem k_c220 : lw_tbl[875]? = some (.code (x_Mf kML 220).1 (x_Mf kML 220).2.1 (x_Mf kML 220).2.2.1 (x_Mf kML 220).2.2.2) := by rfl
set_option maxRecDepth 100000 in
theorem k_c221 : lw_tbl[616]? = some (.code (x_Mf kML 221).1 (x_Mf kML 221).2.1 (x_Mf kML 221).2.2.1 (x_Mf kML 221).2.2.2) := by rfl
set_option maxRecDepth 100000 in
theorem k_c222 : lw_tbl[619]? = some (.code (x_Mf kML 222).1 (x_Mf kML 222).2.1 (x_Mf kML 222).2.2.1 (x_Mf kML 222).2.2.2) := by rfl
set_option maxRecDepth 100000 in
theorem k_c223 : lw_tbl[609]? = some (.code (x_Mf kML 223).1 (x_Mf kML 223).2.1 (x_Mf kML 223).2.2.1 (x_Mf kML 223).2.2.2) := by rfl
set_option maxRecDepth 100000 in
theorem k_c224 : lw_tbl[818]? = some (.code (x_Mf kML 224).1 (x_Mf kML 224).2.1 (x_Mf kML 224).2.2.1 (x_Mf kML 224).2.2.2) := by rfl
set_option maxRecDepth 100000 in
theorem k_c1000 : lw_tbl[632]? = some (.code (x_Mf kML 1000).1 (x_Mf kML 1000).2.1 (x_Mf kML 1000).2.2.1 (x_Mf kML 1000).2.2.2) := by rfl
set_option maxRecDepth 100000 in
theorem k_c1001 : lw_tbl[646]? = some (.code (x_Mf kML 1001).1 (x_Mf kML 1001).2.1 (x_Mf kML 1001).2.2.1 (x_Mf kML 1001).2.2.2) := by rfl
set_option maxRecDepth 100000 in
theorem k_c1002 : lw_tbl[685]? = some (.code (x_Mf kML 1002).1 (x_Mf kML 1002).2.1 (x_Mf kML 1002).2.2.1 (x_Mf kML 1002).2.2.2) := by rfl
theorem k_wI : ∀ w ∈ kMU.map (fun μ => Cond.initialized (x_Mf kML μ).1.cls), w ∈ lw_tbl ∧ goodWord w = true := x_by [110, 110, 110, 110, 110, 110, 110, 110, 110, 110, 110, 110, 110, 110, 110, 110, 110, 110, 110, 110, 110, 110, 110, 110, 110, 110, 110, 110, 110, 110, 110, 110, 110, 110, 110, 110, 110, 110, 110, 110, 110, 110, 110, 110, 110, 110, 110, 110, 110, 110, 110, 110, 110, 110, 110, 110, 110, 110, 110, 110, 110, 110, 110, 110, 110, 110, 110, 110, 110, 110, 110, 110, 110, 110, 110, 110, 110, 110, 110, 110, 110, 110, 110, 110, 110, 103, 103, 109, 109, 109, 109, 109, 108, 108, 108, 108, 98, 98, 98, 98, 98, 98, 98, 98, 98, 98, 98, 98, 98, 102, 102, 102, 102, 102, 102, 102, 102, 102, 102, 102, 102, 104, 104, 104, 104, 104, 104, 104, 104, 104, 104, 104, 104, 104, 104, 104, 104, 106, 106, 106, 106, 106, 106, 106, 106, 106, 106, 106, 106, 106, 106, 106, 106, 106, 106, 106, 106, 106, 107, 107, 107, 107, 107, 107, 107, 107, 107, 107, 99, 99, 99, 99, 99, 99, 99, 105, 105, 105, 105, 101, 101, 101, 101, 101, 97, 97, 97, 97, 97, 97, 97, 97, 97, 97, 97, 97, 97, 97, 97, 97, 97, 97, 97, 97, 97, 97, 97, 97, 97, 97, 97, 97, 97, 97, 97, 97, 97, 97, 97, 97, 97, 97, 97, 97, 111, 111, 111] (by decide +kernel) (by decide +kernel)
theorem k_wB : ∀ w ∈ kCL.flatMap (fun q => u_ws q.1.1 q.1.2.1 q.1.2.2), w ∈ lw_tbl ∧ goodWord w = true := x_by [1248, 1250, 1252, 1254, 1256, 1258, 1260, 1262, 1264, 1266, 1268, 1270, 1272, 1274, 1276, 1278, 1280, 1282, 1284, 1286, 1288, 1290, 1292, 1294, 1296, 1298, 1300, 1302, 1304, 1306, 1308, 1310, 1312, 1314, 1316, 1318, 1320, 1322, 1324, 1326, 1328, 1330, 1332, 1334, 1336, 1338, 1340, 1342, 1344, 1346, 1348, 1350, 1352, 485, 487, 489, 491, 493, 461, 463, 465, 467, 469, 261, 263, 265, 267, 269, 271, 273, 275, 277, 279, 281, 283, 285, 287, 289, 291, 293, 295, 189, 191, 193, 195, 197, 199, 319, 321, 323, 325, 327, 329, 331, 333, 380, 382, 384, 386, 388, 390, 392, 394, 421, 423, 425, 427, 429, 431, 433, 435, 437, 439, 441, 443, 149, 151, 349, 351, 353, 355, 357, 359, 166, 168, 170, 506, 508, 510, 512, 514, 516, 518, 520, 522, 524] (by decide +kernel) (by decide +kernel)
theorem k_w0 : ∀ w ∈ (((kPL.getD 0 ("", [])).2.drop 0).take 40).flatMap (fun r => x_need kCL kX kML (kPL.getD 0 ("", [])).1 r.1 r.2), w ∈ lw_tbl ∧ goodWord w = true := x_by [1194, 123, 124, 1196, 1197, 1200, 1201, 1202, 1203, 1204, 1205, 1209, 1211, 1213, 1214, 1215, 1221, 1223, 1224, 1225, 1226, 1227, 1230, 1235, 1236, 1237, 1238, 1239, 1243, 1247, 1195, 1198, 1516, 1517, 1199, 1367, 1368, 1370, 39, 1376, 1378, 40, 1380, 1382, 41, 1388, 1390, 42, 1206, 1518, 1520, 66] (by decide +kernel) (by decide +kernel)
theorem k_w1 : ∀ w ∈ (((kPL.getD 0 ("", [])).2.drop 40).take 40).flatMap (fun r => x_need kCL kX kML (kPL.getD 0 ("", [])).1 r.1 r.2), w ∈ lw_tbl ∧ goodWord w = true := x_by [1216, 1396, 1398, 43, 1208, 1212, 1210, 1412, 1414, 44, 1217, 1428, 1430, 46, 1218, 1219, 1220, 1432, 1434, 47, 1436, 1438, 48, 1440, 1442, 49, 1444, 1446, 50, 1232, 1233, 1228, 1456, 1458, 53, 1472, 1474, 57, 1424, 1426, 45, 1468, 1470, 56, 1476, 1478, 58, 1464, 1466, 55, 1460, 1462, 54, 1231, 1229, 1452, 1454, 52, 1484, 1486, 60, 1488, 1490, 61, 1492, 1494, 62, 1480, 1482, 59, 1234, 1448, 1450, 51, 1222, 1562, 1564, 77, 1558, 1560, 76, 1542, 1544, 72, 1530, 1532, 69, 1538, 1540, 71] (by decide +kernel) (by decide +kernel)
theorem k_w2 : ∀ w ∈ (((kPL.getD 0 ("", [])).2.drop 80).take 40).flatMap (fun r => x_need kCL kX kML (kPL.getD 0 ("", [])).1 r.1 r.2), w ∈ lw_tbl ∧ goodWord w = true := x_by [1546, 1548, 73, 1550, 1552, 74, 1207, 1554, 1556, 75, 1534, 1536, 70, 1566, 1568, 78, 1504, 1506, 63, 1508, 1510, 64, 1512, 1514, 65, 1522, 1524, 67, 1526, 1528, 68, 1586, 1588, 81, 1578, 1580, 79, 1582, 1584, 80, 1614, 1616, 83, 1610, 1612, 82, 1240, 1241, 1618, 1620, 84, 1622, 1624, 85, 1638, 1640, 88, 1634, 1636, 87, 1242, 1630, 1632, 86, 1650, 1651, 1653, 89, 1655, 1657, 90, 1667, 1669, 92, 1663, 1665, 91, 1246, 1244, 1679, 1681, 93, 1245, 1683, 1685, 94, 1687, 1689, 95] (by decide +kernel) (by decide +kernel)
theorem k_w3 : ∀ w ∈ (((kPL.getD 1 ("", [])).2.drop 0).take 40).flatMap (fun r => x_need kCL kX kML (kPL.getD 1 ("", [])).1 r.1 r.2), w ∈ lw_tbl ∧ goodWord w = true := x_by [117, 118, 97, 119, 120, 1189, 1190, 110, 1191, 1192, 527, 528, 529, 1359, 1360, 1361, 531, 532, 533, 1363, 1364, 1365, 547, 548, 549, 1372, 1373, 1374, 558, 559, 560, 1384, 1385, 1386, 571, 572, 573, 1408, 1409, 1410, 583, 584, 585, 1416, 1417, 1418, 587, 588, 589, 1420, 1421, 1422, 803, 804, 805, 1496, 1497, 1498, 807, 808, 809, 1392, 1393, 1394, 820, 821, 822, 1400, 1401, 1402, 831, 832, 833, 1404, 1405, 1406, 835, 836, 837, 1500, 1501, 1502, 945, 946, 947, 1570, 1571, 1572, 953, 954, 955, 1574, 1575, 1576, 969, 970, 971, 1590, 1591, 1592, 973, 974, 975, 1594, 1595, 1596, 978, 979, 980, 1598, 1599, 1600, 985, 986, 987, 1602, 1603, 1604] (by decide +kernel) (by decide +kernel)
theorem k_w4 : ∀ w ∈ (((kPL.getD 1 ("", [])).2.drop 40).take 40).flatMap (fun r => x_need kCL kX kML (kPL.getD 1 ("", [])).1 r.1 r.2), w ∈ lw_tbl ∧ goodWord w = true := x_by [989, 990, 991, 1606, 1607, 1608, 1067, 1068, 1069, 1626, 1627, 1628, 1095, 1096, 1097, 1642, 1643, 1644, 1105, 1106, 1107, 1646, 1647, 1648, 1120, 1121, 1122, 1659, 1660, 1661, 1153, 1154, 1155, 1671, 1672, 1673, 1161, 1162, 1163, 1355, 1356, 1357, 1169, 1170, 1171, 1675, 1676, 1677, 1185, 1186, 1187, 1691, 1692, 1693] (by decide +kernel) (by decide +kernel)
theorem k_w5 : ∀ w ∈ (((kPL.getD 2 ("", [])).2.drop 0).take 40).flatMap (fun r => x_need kCL kX kML (kPL.getD 2 ("", [])).1 r.1 r.2), w ∈ lw_tbl ∧ goodWord w = true := x_by [477, 123, 124, 480, 484, 482, 483, 478, 1128, 203, 1129, 853, 854, 233, 1130, 1041, 1042, 1131, 1132, 1133, 1135, 1137, 36, 1149, 1151, 38, 222, 1139, 555, 556, 1140, 1142, 37, 1148, 966, 967, 1144, 1145, 1146] (by decide +kernel) (by decide +kernel)
theorem k_w6 : ∀ w ∈ (((kPL.getD 3 ("", [])).2.drop 0).take 40).flatMap (fun r => x_need kCL kX kML (kPL.getD 3 ("", [])).1 r.1 r.2), w ∈ lw_tbl ∧ goodWord w = true := x_by [451, 123, 124, 454, 456, 452, 132, 99, 453, 134, 460, 458, 459, 1075, 203, 1076, 853, 854, 237, 164, 1077, 1079, 34, 145, 1091, 1093, 35, 1081, 580, 581, 1082, 1083, 1084, 1086, 1087, 1088, 1090, 966, 967] (by decide +kernel) (by decide +kernel)
theorem k_w7 : ∀ w ∈ (((kPL.getD 4 ("", [])).2.drop 0).take 40).flatMap (fun r => x_need kCL kX kML (kPL.getD 4 ("", [])).1 r.1 r.2), w ∈ lw_tbl ∧ goodWord w = true := x_by [130, 123, 124, 207, 210, 213, 217, 219, 221, 226, 228, 131, 132, 99, 133, 134, 231, 155, 156, 101, 158, 236, 173, 174, 102, 176, 240, 243, 202, 203, 205, 537, 255, 567, 568, 570, 552, 861, 555, 556, 889, 260, 890, 944, 699, 100, 700, 246, 253, 1177, 793, 792, 116, 1178, 1000, 1001, 1179, 1180, 1181, 1184, 788, 789, 249] (by decide +kernel) (by decide +kernel)
theorem k_w8 : ∀ w ∈ (((kPL.getD 5 ("", [])).2.drop 0).take 40).flatMap (fun r => x_need kCL kX kML (kPL.getD 5 ("", [])).1 r.1 r.2), w ∈ lw_tbl ∧ goodWord w = true := x_by [178, 123, 124, 179, 180, 181, 182, 183, 187, 791, 793, 792, 116, 917, 918, 919, 921, 923, 23, 926, 699, 100, 700, 925, 138, 100, 139, 1017, 1019, 26, 1021] (by decide +kernel) (by decide +kernel)
theorem k_w9 : ∀ w ∈ (((kPL.getD 6 ("", [])).2.drop 0).take 40).flatMap (fun r => x_need kCL kX kML (kPL.getD 6 ("", [])).1 r.1 r.2), w ∈ lw_tbl ∧ goodWord w = true := x_by [305, 123, 124, 306, 174, 102, 176, 308, 312, 315, 316, 314, 595, 596, 597, 310, 599, 601, 3, 317, 318, 739, 741, 8, 146, 603, 604, 605, 608, 610, 612, 4, 620, 622, 5, 615, 618, 624, 626, 6, 682, 683, 684, 629, 630, 631, 639, 641, 7, 643, 644, 645, 743, 745, 9, 186, 747, 749, 10, 751, 753, 11, 767, 768, 769, 771, 773, 14, 783, 784, 785, 775, 777, 15, 759, 760, 761, 779, 781, 16, 755, 757, 12, 763, 765, 13] (by decide +kernel) (by decide +kernel)
theorem k_w10 : ∀ w ∈ (((kPL.getD 6 ("", [])).2.drop 40).take 40).flatMap (fun r => x_need kCL kX kML (kPL.getD 6 ("", [])).1 r.1 r.2), w ∈ lw_tbl ∧ goodWord w = true := x_by [188] (by decide +kernel) (by decide +kernel)
theorem k_w11 : ∀ w ∈ (((kPL.getD 7 ("", [])).2.drop 0).take 40).flatMap (fun r => x_need kCL kX kML (kPL.getD 7 ("", [])).1 r.1 r.2), w ∈ lw_tbl ∧ goodWord w = true := x_by [367, 123, 124, 373, 374, 375, 376, 377, 378, 379, 372, 368, 369, 370, 856, 857, 858, 552, 241, 866, 867, 868, 148, 870, 699, 100, 700, 871, 138, 100, 139, 872, 604, 605, 874, 876, 877, 878, 184, 903, 905, 22, 913, 914, 915, 927, 929, 24, 931, 252, 1013, 1014, 1015, 225, 907, 908, 910, 911, 141, 862, 863, 864, 899, 900, 901, 852, 853, 854, 235, 965, 966, 967, 1044, 203, 239, 1103, 1083, 1084] (by decide +kernel) (by decide +kernel)
theorem k_w12 : ∀ w ∈ (((kPL.getD 7 ("", [])).2.drop 40).take 40).flatMap (fun r => x_need kCL kX kML (kPL.getD 7 ("", [])).1 r.1 r.2), w ∈ lw_tbl ∧ goodWord w = true := x_by [1104, 1087, 1088, 1114, 555, 556, 1115, 1041, 1042, 216, 881, 883, 20, 895, 897, 21, 940, 941, 942, 250, 256, 885, 886, 887, 891, 892, 893, 932, 933, 934] (by decide +kernel) (by decide +kernel)
theorem k_w13 : ∀ w ∈ (((kPL.getD 8 ("", [])).2.drop 0).take 40).flatMap (fun r => x_need kCL kX kML (kPL.getD 8 ("", [])).1 r.1 r.2), w ∈ lw_tbl ∧ goodWord w = true := x_by [404, 123, 124, 409, 405, 132, 99, 406, 134, 413, 414, 415, 416, 417, 418, 419, 411, 412, 407, 997, 203, 232, 144, 998, 853, 854, 999, 1000, 1001, 1005, 1007, 25, 1027, 1029, 27, 1035, 1037, 28, 1045, 1047, 29, 1063, 1065, 33, 1031, 604, 605, 1055, 1057, 31, 1049, 933, 934, 1009, 1010, 1011, 1022, 555, 556, 215, 1023, 1024, 1025, 212, 1033, 877, 878, 224, 1054, 138, 100, 139, 420, 1039, 966, 967, 1040, 1041, 1042, 552, 874] (by decide +kernel) (by decide +kernel)
theorem k_w14 : ∀ w ∈ (((kPL.getD 8 ("", [])).2.drop 40).take 40).flatMap (fun r => x_need kCL kX kML (kPL.getD 8 ("", [])).1 r.1 r.2), w ∈ lw_tbl ∧ goodWord w = true := x_by [1050, 1052, 30, 1059, 1061, 32] (by decide +kernel) (by decide +kernel)
theorem k_w15 : ∀ w ∈ (((kPL.getD 9 ("", [])).2.drop 0).take 40).flatMap (fun r => x_need kCL kX kML (kPL.getD 9 ("", [])).1 r.1 r.2), w ∈ lw_tbl ∧ goodWord w = true := x_by [136, 123, 124, 137, 138, 100, 139, 140, 142, 936, 937, 938, 1003, 699, 100, 700, 1004, 604, 605] (by decide +kernel) (by decide +kernel)
theorem k_w16 : ∀ w ∈ (((kPL.getD 10 ("", [])).2.drop 0).take 40).flatMap (fun r => x_need kCL kX kML (kPL.getD 10 ("", [])).1 r.1 r.2), w ∈ lw_tbl ∧ goodWord w = true := x_by [341, 123, 124, 342, 343, 344, 345, 346, 347, 843, 845, 19, 208, 847, 793, 792, 116, 229, 245, 248, 259] (by decide +kernel) (by decide +kernel)
theorem k_w17 : ∀ w ∈ (((kPL.getD 11 ("", [])).2.drop 0).take 40).flatMap (fun r => x_need kCL kX kML (kPL.getD 11 ("", [])).1 r.1 r.2), w ∈ lw_tbl ∧ goodWord w = true := x_by [160, 123, 124, 161, 162, 163, 143, 828, 604, 605, 615, 817, 1183, 793, 792, 116] (by decide +kernel) (by decide +kernel)
theorem k_w18 : ∀ w ∈ (((kPL.getD 12 ("", [])).2.drop 0).take 40).flatMap (fun r => x_need kCL kX kML (kPL.getD 12 ("", [])).1 r.1 r.2), w ∈ lw_tbl ∧ goodWord w = true := x_by [122, 123, 124, 125, 126, 98, 127, 128, 496, 497, 298, 132, 99, 299, 134, 499, 300, 301, 104, 302, 303, 500, 336, 337, 105, 339, 501, 362, 363, 106, 364, 365, 502, 399, 400, 107, 401, 402, 503, 446, 447, 108, 448, 449, 504, 472, 473, 109, 474, 475, 505, 258, 348, 206, 535, 536, 537, 209, 211, 214, 218, 220, 539, 541, 0, 551, 552, 554, 555, 556, 223] (by decide +kernel) (by decide +kernel)
theorem k_w19 : ∀ w ∈ (((kPL.getD 12 ("", [])).2.drop 40).take 40).flatMap (fun r => x_need kCL kX kML (kPL.getD 12 ("", [])).1 r.1 r.2), w ∈ lw_tbl ∧ goodWord w = true := x_by [562, 563, 564, 147, 575, 577, 2, 591, 592, 593, 242, 309, 787, 788, 789, 794, 796, 17, 185, 311, 313, 811, 813, 18, 234, 815, 604, 605, 816, 817, 579, 580, 581, 543, 545, 1, 238, 824, 825, 826, 165, 839, 840, 841, 848, 849, 850, 254, 949, 950, 951, 957, 958, 959, 961, 962, 963, 227, 230, 977, 937, 938, 982, 853, 854, 983, 863, 864, 984, 900, 901, 247, 244, 408, 993, 994, 995, 410, 455, 1071, 1072, 1073, 457] (by decide +kernel) (by decide +kernel)
theorem k_w20 : ∀ w ∈ (((kPL.getD 12 ("", [])).2.drop 80).take 40).flatMap (fun r => x_need kCL kX kML (kPL.getD 12 ("", [])).1 r.1 r.2), w ∈ lw_tbl ∧ goodWord w = true := x_by [1099, 1100, 1101, 1109, 1110, 1111, 1112, 1116, 1117, 1118, 479, 1124, 1125, 1126, 481, 1157, 1158, 1159, 1165, 1166, 1167, 1173, 1174, 1175, 498, 251, 257, 798, 799, 800, 819, 615] (by decide +kernel) (by decide +kernel)
