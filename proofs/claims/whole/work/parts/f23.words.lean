/-- words by their places in a longer list -/
theorem x_by {big ws : List Cond} (ps : List Nat) (h : ws = ps.filterMap (fun i => big[i]?)) (hg : ws.all goodWord = true) : ∀ w ∈ ws, w ∈ big ∧ goodWord w = true := by
  intro w hw
  refine ⟨?_, List.all_eq_true.mp hg w hw⟩
  rw [h] at hw
  obtain ⟨i, -, hi⟩ := List.mem_filterMap.mp hw
  exact List.mem_of_getElem? hi
theorem k_wA : ∀ w ∈ ([.arrayClass .int, .arrayClass .boolean, .arrayClass .long] : List Cond), w ∈ lw_tbl ∧ goodWord w = true := x_by [154, 397, 398] (by decide +kernel) (by decide +kernel)
set_option maxRecDepth 100000 in
theorem k_c0 : lw_tbl[1195]? = some (.code (x_Mf kML 0).1 (x_Mf kML 0).2.1 (x_Mf kML 0).2.2.1 (x_Mf kML 0).2.2.2) := by rfl
set_option maxRecDepth 100000 in
theorem k_c1 : lw_tbl[1373]? = some (.code (x_Mf kML 1).1 (x_Mf kML 1).2.1 (x_Mf kML 1).2.2.1 (x_Mf kML 1).2.2.2) := by rfl
set_option maxRecDepth 100000 in
theorem k_c2 : lw_tbl[1509]? = some (.code (x_Mf kML 2).1 (x_Mf kML 2).2.1 (x_Mf kML 2).2.2.1 (x_Mf kML 2).2.2.2) := by rfl
set_option maxRecDepth 100000 in
theorem k_c3 : lw_tbl[1360]? = some (.code (x_Mf kML 3).1 (x_Mf kML 3).2.1 (x_Mf kML 3).2.2.1 (x_Mf kML 3).2.2.2) := by rfl
set_option maxRecDepth 100000 in
theorem k_c4 : lw_tbl[1364]? = some (.code (x_Mf kML 4).1 (x_Mf kML 4).2.1 (x_Mf kML 4).2.2.1 (x_Mf kML 4).2.2.2) := by rfl
set_option maxRecDepth 100000 in
theorem k_c5 : lw_tbl[1517]? = some (.code (x_Mf kML 5).1 (x_Mf kML 5).2.1 (x_Mf kML 5).2.2.1 (x_Mf kML 5).2.2.2) := by rfl
set_option maxRecDepth 100000 in
theorem k_c6 : lw_tbl[1385]? = some (.code (x_Mf kML 6).1 (x_Mf kML 6).2.1 (x_Mf kML 6).2.2.1 (x_Mf kML 6).2.2.2) := by rfl
set_option maxRecDepth 100000 in
theorem k_c7 : lw_tbl[1381]? = some (.code (x_Mf kML 7).1 (x_Mf kML 7).2.1 (x_Mf kML 7).2.2.1 (x_Mf kML 7).2.2.2) := by rfl
set_option maxRecDepth 100000 in
theorem k_c8 : lw_tbl[1368]? = some (.code (x_Mf kML 8).1 (x_Mf kML 8).2.1 (x_Mf kML 8).2.2.1 (x_Mf kML 8).2.2.2) := by rfl
set_option maxRecDepth 100000 in
theorem k_c9 : lw_tbl[1377]? = some (.code (x_Mf kML 9).1 (x_Mf kML 9).2.1 (x_Mf kML 9).2.2.1 (x_Mf kML 9).2.2.2) := by rfl
set_option maxRecDepth 100000 in
theorem k_c10 : lw_tbl[1393]? = some (.code (x_Mf kML 10).1 (x_Mf kML 10).2.1 (x_Mf kML 10).2.2.1 (x_Mf kML 10).2.2.2) := by rfl
set_option maxRecDepth 100000 in
theorem k_c11 : lw_tbl[1389]? = some (.code (x_Mf kML 11).1 (x_Mf kML 11).2.1 (x_Mf kML 11).2.2.1 (x_Mf kML 11).2.2.2) := by rfl
set_option maxRecDepth 100000 in
theorem k_c12 : lw_tbl[1523]? = some (.code (x_Mf kML 12).1 (x_Mf kML 12).2.1 (x_Mf kML 12).2.2.1 (x_Mf kML 12).2.2.2) := by rfl
set_option maxRecDepth 100000 in
theorem k_c13 : lw_tbl[1535]? = some (.code (x_Mf kML 13).1 (x_Mf kML 13).2.1 (x_Mf kML 13).2.2.1 (x_Mf kML 13).2.2.2) := by rfl
set_option maxRecDepth 100000 in
theorem k_c14 : lw_tbl[1401]? = some (.code (x_Mf kML 14).1 (x_Mf kML 14).2.1 (x_Mf kML 14).2.2.1 (x_Mf kML 14).2.2.2) := by rfl
set_option maxRecDepth 100000 in
theorem k_c15 : lw_tbl[1397]? = some (.code (x_Mf kML 15).1 (x_Mf kML 15).2.1 (x_Mf kML 15).2.2.1 (x_Mf kML 15).2.2.2) := by rfl
set_option maxRecDepth 100000 in
theorem k_c16 : lw_tbl[1405]? = some (.code (x_Mf kML 16).1 (x_Mf kML 16).2.1 (x_Mf kML 16).2.2.1 (x_Mf kML 16).2.2.2) := by rfl
set_option maxRecDepth 100000 in
theorem k_c17 : lw_tbl[1409]? = some (.code (x_Mf kML 17).1 (x_Mf kML 17).2.1 (x_Mf kML 17).2.2.1 (x_Mf kML 17).2.2.2) := by rfl
set_option maxRecDepth 100000 in
theorem k_c18 : lw_tbl[1513]? = some (.code (x_Mf kML 18).1 (x_Mf kML 18).2.1 (x_Mf kML 18).2.2.1 (x_Mf kML 18).2.2.2) := by rfl
set_option maxRecDepth 100000 in
theorem k_c19 : lw_tbl[1417]? = some (.code (x_Mf kML 19).1 (x_Mf kML 19).2.1 (x_Mf kML 19).2.2.1 (x_Mf kML 19).2.2.2) := by rfl
set_option maxRecDepth 100000 in
theorem k_c20 : lw_tbl[1413]? = some (.code (x_Mf kML 20).1 (x_Mf kML 20).2.1 (x_Mf kML 20).2.2.1 (x_Mf kML 20).2.2.2) := by rfl
set_option maxRecDepth 100000 in
theorem k_c21 : lw_tbl[1421]? = some (.code (x_Mf kML 21).1 (x_Mf kML 21).2.1 (x_Mf kML 21).2.2.1 (x_Mf kML 21).2.2.2) := by rfl
set_option maxRecDepth 100000 in
theorem k_c22 : lw_tbl[1433]? = some (.code (x_Mf kML 22).1 (x_Mf kML 22).2.1 (x_Mf kML 22).2.2.1 (x_Mf kML 22).2.2.2) := by rfl
set_option maxRecDepth 100000 in
theorem k_c23 : lw_tbl[1437]? = some (.code (x_Mf kML 23).1 (x_Mf kML 23).2.1 (x_Mf kML 23).2.2.1 (x_Mf kML 23).2.2.2) := by rfl
set_option maxRecDepth 100000 in
theorem k_c24 : lw_tbl[1445]? = some (.code (x_Mf kML 24).1 (x_Mf kML 24).2.1 (x_Mf kML 24).2.2.1 (x_Mf kML 24).2.2.2) := by rfl
set_option maxRecDepth 100000 in
theorem k_c25 : lw_tbl[1449]? = some (.code (x_Mf kML 25).1 (x_Mf kML 25).2.1 (x_Mf kML 25).2.2.1 (x_Mf kML 25).2.2.2) := by rfl
set_option maxRecDepth 100000 in
theorem k_c26 : lw_tbl[1441]? = some (.code (x_Mf kML 26).1 (x_Mf kML 26).2.1 (x_Mf kML 26).2.2.1 (x_Mf kML 26).2.2.2) := by rfl
set_option maxRecDepth 100000 in
theorem k_c27 : lw_tbl[1429]? = some (.code (x_Mf kML 27).1 (x_Mf kML 27).2.1 (x_Mf kML 27).2.2.1 (x_Mf kML 27).2.2.2) := by rfl
set_option maxRecDepth 100000 in
theorem k_c28 : lw_tbl[1461]? = some (.code (x_Mf kML 28).1 (x_Mf kML 28).2.1 (x_Mf kML 28).2.2.1 (x_Mf kML 28).2.2.2) := by rfl
set_option maxRecDepth 100000 in
theorem k_c29 : lw_tbl[1457]? = some (.code (x_Mf kML 29).1 (x_Mf kML 29).2.1 (x_Mf kML 29).2.2.1 (x_Mf kML 29).2.2.2) := by rfl
set_option maxRecDepth 100000 in
theorem k_c30 : lw_tbl[1481]? = some (.code (x_Mf kML 30).1 (x_Mf kML 30).2.1 (x_Mf kML 30).2.2.1 (x_Mf kML 30).2.2.2) := by rfl
set_option maxRecDepth 100000 in
theorem k_c31 : lw_tbl[1477]? = some (.code (x_Mf kML 31).1 (x_Mf kML 31).2.1 (x_Mf kML 31).2.2.1 (x_Mf kML 31).2.2.2) := by rfl
set_option maxRecDepth 100000 in
theorem k_c32 : lw_tbl[1473]? = some (.code (x_Mf kML 32).1 (x_Mf kML 32).2.1 (x_Mf kML 32).2.2.1 (x_Mf kML 32).2.2.2) := by rfl
set_option maxRecDepth 100000 in
theorem k_c33 : lw_tbl[1469]? = some (.code (x_Mf kML 33).1 (x_Mf kML 33).2.1 (x_Mf kML 33).2.2.1 (x_Mf kML 33).2.2.2) := by rfl
set_option maxRecDepth 100000 in
theorem k_c34 : lw_tbl[1465]? = some (.code (x_Mf kML 34).1 (x_Mf kML 34).2.1 (x_Mf kML 34).2.2.1 (x_Mf kML 34).2.2.2) := by rfl
set_option maxRecDepth 100000 in
theorem k_c35 : lw_tbl[1493]? = some (.code (x_Mf kML 35).1 (x_Mf kML 35).2.1 (x_Mf kML 35).2.2.1 (x_Mf kML 35).2.2.2) := by rfl
set_option maxRecDepth 100000 in
theorem k_c36 : lw_tbl[1489]? = some (.code (x_Mf kML 36).1 (x_Mf kML 36).2.1 (x_Mf kML 36).2.2.1 (x_Mf kML 36).2.2.2) := by rfl
set_option maxRecDepth 100000 in
theorem k_c37 : lw_tbl[1497]? = some (.code (x_Mf kML 37).1 (x_Mf kML 37).2.1 (x_Mf kML 37).2.2.1 (x_Mf kML 37).2.2.2) := by rfl
set_option maxRecDepth 100000 in
theorem k_c38 : lw_tbl[1485]? = some (.code (x_Mf kML 38).1 (x_Mf kML 38).2.1 (x_Mf kML 38).2.2.1 (x_Mf kML 38).2.2.2) := by rfl
set_option maxRecDepth 100000 in
theorem k_c39 : lw_tbl[1453]? = some (.code (x_Mf kML 39).1 (x_Mf kML 39).2.1 (x_Mf kML 39).2.2.1 (x_Mf kML 39).2.2.2) := by rfl
set_option maxRecDepth 100000 in
theorem k_c40 : lw_tbl[1425]? = some (.code (x_Mf kML 40).1 (x_Mf kML 40).2.1 (x_Mf kML 40).2.2.1 (x_Mf kML 40).2.2.2) := by rfl
set_option maxRecDepth 100000 in
theorem k_c41 : lw_tbl[1501]? = some (.code (x_Mf kML 41).1 (x_Mf kML 41).2.1 (x_Mf kML 41).2.2.1 (x_Mf kML 41).2.2.2) := by rfl
set_option maxRecDepth 100000 in
theorem k_c42 : lw_tbl[1567]? = some (.code (x_Mf kML 42).1 (x_Mf kML 42).2.1 (x_Mf kML 42).2.2.1 (x_Mf kML 42).2.2.2) := by rfl
set_option maxRecDepth 100000 in
theorem k_c43 : lw_tbl[1563]? = some (.code (x_Mf kML 43).1 (x_Mf kML 43).2.1 (x_Mf kML 43).2.2.1 (x_Mf kML 43).2.2.2) := by rfl
set_option maxRecDepth 100000 in
theorem k_c44 : lw_tbl[1559]? = some (.code (x_Mf kML 44).1 (x_Mf kML 44).2.1 (x_Mf kML 44).2.2.1 (x_Mf kML 44).2.2.2) := by rfl
set_option maxRecDepth 100000 in
theorem k_c45 : lw_tbl[1547]? = some (.code (x_Mf kML 45).1 (x_Mf kML 45).2.1 (x_Mf kML 45).2.2.1 (x_Mf kML 45).2.2.2) := by rfl
set_option maxRecDepth 100000 in
theorem k_c46 : lw_tbl[1543]? = some (.code (x_Mf kML 46).1 (x_Mf kML 46).2.1 (x_Mf kML 46).2.2.1 (x_Mf kML 46).2.2.2) := by rfl
set_option maxRecDepth 100000 in
theorem k_c47 : lw_tbl[1551]? = some (.code (x_Mf kML 47).1 (x_Mf kML 47).2.1 (x_Mf kML 47).2.2.1 (x_Mf kML 47).2.2.2) := by rfl
set_option maxRecDepth 100000 in
theorem k_c48 : lw_tbl[1555]? = some (.code (x_Mf kML 48).1 (x_Mf kML 48).2.1 (x_Mf kML 48).2.2.1 (x_Mf kML 48).2.2.2) := by rfl
set_option maxRecDepth 100000 in
theorem k_c49 : lw_tbl[1539]? = some (.code (x_Mf kML 49).1 (x_Mf kML 49).2.1 (x_Mf kML 49).2.2.1 (x_Mf kML 49).2.2.2) := by rfl
set_option maxRecDepth 100000 in
theorem k_c50 : lw_tbl[1591]? = some (.code (x_Mf kML 50).1 (x_Mf kML 50).2.1 (x_Mf kML 50).2.2.1 (x_Mf kML 50).2.2.2) := by rfl
set_option maxRecDepth 100000 in
theorem k_c51 : lw_tbl[1527]? = some (.code (x_Mf kML 51).1 (x_Mf kML 51).2.1 (x_Mf kML 51).2.2.1 (x_Mf kML 51).2.2.2) := by rfl
set_option maxRecDepth 100000 in
theorem k_c52 : lw_tbl[1571]? = some (.code (x_Mf kML 52).1 (x_Mf kML 52).2.1 (x_Mf kML 52).2.2.1 (x_Mf kML 52).2.2.2) := by rfl
set_option maxRecDepth 100000 in
theorem k_c53 : lw_tbl[1531]? = some (.code (x_Mf kML 53).1 (x_Mf kML 53).2.1 (x_Mf kML 53).2.2.1 (x_Mf kML 53).2.2.2) := by rfl
set_option maxRecDepth 100000 in
theorem k_c54 : lw_tbl[1505]? = some (.code (x_Mf kML 54).1 (x_Mf kML 54).2.1 (x_Mf kML 54).2.2.1 (x_Mf kML 54).2.2.2) := by rfl
set_option maxRecDepth 100000 in
theorem k_c55 : lw_tbl[1575]? = some (.code (x_Mf kML 55).1 (x_Mf kML 55).2.1 (x_Mf kML 55).2.2.1 (x_Mf kML 55).2.2.2) := by rfl
set_option maxRecDepth 100000 in
theorem k_c56 : lw_tbl[1583]? = some (.code (x_Mf kML 56).1 (x_Mf kML 56).2.1 (x_Mf kML 56).2.2.1 (x_Mf kML 56).2.2.2) := by rfl
set_option maxRecDepth 100000 in
theorem k_c57 : lw_tbl[1587]? = some (.code (x_Mf kML 57).1 (x_Mf kML 57).2.1 (x_Mf kML 57).2.2.1 (x_Mf kML 57).2.2.2) := by rfl
set_option maxRecDepth 100000 in
theorem k_c58 : lw_tbl[1579]? = some (.code (x_Mf kML 58).1 (x_Mf kML 58).2.1 (x_Mf kML 58).2.2.1 (x_Mf kML 58).2.2.2) := by rfl
set_option maxRecDepth 100000 in
theorem k_c59 : lw_tbl[1595]? = some (.code (x_Mf kML 59).1 (x_Mf kML 59).2.1 (x_Mf kML 59).2.2.1 (x_Mf kML 59).2.2.2) := by rfl
set_option maxRecDepth 100000 in
theorem k_c60 : lw_tbl[1599]? = some (.code (x_Mf kML 60).1 (x_Mf kML 60).2.1 (x_Mf kML 60).2.2.1 (x_Mf kML 60).2.2.2) := by rfl
set_option maxRecDepth 100000 in
theorem k_c61 : lw_tbl[1603]? = some (.code (x_Mf kML 61).1 (x_Mf kML 61).2.1 (x_Mf kML 61).2.2.1 (x_Mf kML 61).2.2.2) := by rfl
set_option maxRecDepth 100000 in
theorem k_c62 : lw_tbl[1607]? = some (.code (x_Mf kML 62).1 (x_Mf kML 62).2.1 (x_Mf kML 62).2.2.1 (x_Mf kML 62).2.2.2) := by rfl
set_option maxRecDepth 100000 in
theorem k_c63 : lw_tbl[1619]? = some (.code (x_Mf kML 63).1 (x_Mf kML 63).2.1 (x_Mf kML 63).2.2.1 (x_Mf kML 63).2.2.2) := by rfl
set_option maxRecDepth 100000 in
theorem k_c64 : lw_tbl[1615]? = some (.code (x_Mf kML 64).1 (x_Mf kML 64).2.1 (x_Mf kML 64).2.2.1 (x_Mf kML 64).2.2.2) := by rfl
set_option maxRecDepth 100000 in
theorem k_c65 : lw_tbl[1623]? = some (.code (x_Mf kML 65).1 (x_Mf kML 65).2.1 (x_Mf kML 65).2.2.1 (x_Mf kML 65).2.2.2) := by rfl
set_option maxRecDepth 100000 in
theorem k_c66 : lw_tbl[1627]? = some (.code (x_Mf kML 66).1 (x_Mf kML 66).2.1 (x_Mf kML 66).2.2.1 (x_Mf kML 66).2.2.2) := by rfl
set_option maxRecDepth 100000 in
theorem k_c67 : lw_tbl[1611]? = some (.code (x_Mf kML 67).1 (x_Mf kML 67).2.1 (x_Mf kML 67).2.2.1 (x_Mf kML 67).2.2.2) := by rfl
set_option maxRecDepth 100000 in
theorem k_c68 : lw_tbl[1643]? = some (.code (x_Mf kML 68).1 (x_Mf kML 68).2.1 (x_Mf kML 68).2.2.1 (x_Mf kML 68).2.2.2) := by rfl
set_option maxRecDepth 100000 in
theorem k_c69 : lw_tbl[1639]? = some (.code (x_Mf kML 69).1 (x_Mf kML 69).2.1 (x_Mf kML 69).2.2.1 (x_Mf kML 69).2.2.2) := by rfl
set_option maxRecDepth 100000 in
theorem k_c70 : lw_tbl[1635]? = some (.code (x_Mf kML 70).1 (x_Mf kML 70).2.1 (x_Mf kML 70).2.2.1 (x_Mf kML 70).2.2.2) := by rfl
set_option maxRecDepth 100000 in
theorem k_c71 : lw_tbl[1631]? = some (.code (x_Mf kML 71).1 (x_Mf kML 71).2.1 (x_Mf kML 71).2.2.1 (x_Mf kML 71).2.2.2) := by rfl
set_option maxRecDepth 100000 in
theorem k_c72 : lw_tbl[1647]? = some (.code (x_Mf kML 72).1 (x_Mf kML 72).2.1 (x_Mf kML 72).2.2.1 (x_Mf kML 72).2.2.2) := by rfl
set_option maxRecDepth 100000 in
theorem k_c73 : lw_tbl[1656]? = some (.code (x_Mf kML 73).1 (x_Mf kML 73).2.1 (x_Mf kML 73).2.2.1 (x_Mf kML 73).2.2.2) := by rfl
set_option maxRecDepth 100000 in
theorem k_c74 : lw_tbl[1660]? = some (.code (x_Mf kML 74).1 (x_Mf kML 74).2.1 (x_Mf kML 74).2.2.1 (x_Mf kML 74).2.2.2) := by rfl
set_option maxRecDepth 100000 in
theorem k_c75 : lw_tbl[1651]? = some (.code (x_Mf kML 75).1 (x_Mf kML 75).2.1 (x_Mf kML 75).2.2.1 (x_Mf kML 75).2.2.2) := by rfl
set_option maxRecDepth 100000 in
theorem k_c76 : lw_tbl[1672]? = some (.code (x_Mf kML 76).1 (x_Mf kML 76).2.1 (x_Mf kML 76).2.2.1 (x_Mf kML 76).2.2.2) := by rfl
set_option maxRecDepth 100000 in
theorem k_c77 : lw_tbl[1668]? = some (.code (x_Mf kML 77).1 (x_Mf kML 77).2.1 (x_Mf kML 77).2.2.1 (x_Mf kML 77).2.2.2) := by rfl
set_option maxRecDepth 100000 in
theorem k_c78 : lw_tbl[1664]? = some (.code (x_Mf kML 78).1 (x_Mf kML 78).2.1 (x_Mf kML 78).2.2.1 (x_Mf kML 78).2.2.2) := by rfl
set_option maxRecDepth 100000 in
theorem k_c79 : lw_tbl[1676]? = some (.code (x_Mf kML 79).1 (x_Mf kML 79).2.1 (x_Mf kML 79).2.2.1 (x_Mf kML 79).2.2.2) := by rfl
set_option maxRecDepth 100000 in
theorem k_c80 : lw_tbl[1684]? = some (.code (x_Mf kML 80).1 (x_Mf kML 80).2.1 (x_Mf kML 80).2.2.1 (x_Mf kML 80).2.2.2) := by rfl
set_option maxRecDepth 100000 in
theorem k_c81 : lw_tbl[1692]? = some (.code (x_Mf kML 81).1 (x_Mf kML 81).2.1 (x_Mf kML 81).2.2.1 (x_Mf kML 81).2.2.2) := by rfl
set_option maxRecDepth 100000 in
theorem k_c82 : lw_tbl[1688]? = some (.code (x_Mf kML 82).1 (x_Mf kML 82).2.1 (x_Mf kML 82).2.2.1 (x_Mf kML 82).2.2.2) := by rfl
set_option maxRecDepth 100000 in
theorem k_c83 : lw_tbl[1680]? = some (.code (x_Mf kML 83).1 (x_Mf kML 83).2.1 (x_Mf kML 83).2.2.1 (x_Mf kML 83).2.2.2) := by rfl
set_option maxRecDepth 100000 in
theorem k_c84 : lw_tbl[1696]? = some (.code (x_Mf kML 84).1 (x_Mf kML 84).2.1 (x_Mf kML 84).2.2.1 (x_Mf kML 84).2.2.2) := by rfl
set_option maxRecDepth 100000 in
theorem k_c85 : lw_tbl[371]? = some (.code (x_Mf kML 85).1 (x_Mf kML 85).2.1 (x_Mf kML 85).2.2.1 (x_Mf kML 85).2.2.2) := by rfl
set_option maxRecDepth 100000 in
theorem k_c86 : lw_tbl[204]? = some (.code (x_Mf kML 86).1 (x_Mf kML 86).2.1 (x_Mf kML 86).2.2.1 (x_Mf kML 86).2.2.2) := by rfl
set_option maxRecDepth 100000 in
theorem k_c88 : lw_tbl[476]? = some (.code (x_Mf kML 88).1 (x_Mf kML 88).2.1 (x_Mf kML 88).2.2.1 (x_Mf kML 88).2.2.2) := by rfl
set_option maxRecDepth 100000 in
theorem k_c89 : lw_tbl[1129]? = some (.code (x_Mf kML 89).1 (x_Mf kML 89).2.1 (x_Mf kML 89).2.2.1 (x_Mf kML 89).2.2.2) := by rfl
set_option maxRecDepth 100000 in
theorem k_c90 : lw_tbl[1154]? = some (.code (x_Mf kML 90).1 (x_Mf kML 90).2.1 (x_Mf kML 90).2.2.1 (x_Mf kML 90).2.2.2) := by rfl
set_option maxRecDepth 100000 in
theorem k_c91 : lw_tbl[1140]? = some (.code (x_Mf kML 91).1 (x_Mf kML 91).2.1 (x_Mf kML 91).2.2.1 (x_Mf kML 91).2.2.2) := by rfl
set_option maxRecDepth 100000 in
theorem k_c92 : lw_tbl[1145]? = some (.code (x_Mf kML 92).1 (x_Mf kML 92).2.1 (x_Mf kML 92).2.2.1 (x_Mf kML 92).2.2.2) := by rfl
set_option maxRecDepth 100000 in
theorem k_c93 : lw_tbl[450]? = some (.code (x_Mf kML 93).1 (x_Mf kML 93).2.1 (x_Mf kML 93).2.2.1 (x_Mf kML 93).2.2.2) := by rfl
set_option maxRecDepth 100000 in
theorem k_c94 : lw_tbl[1076]? = some (.code (x_Mf kML 94).1 (x_Mf kML 94).2.1 (x_Mf kML 94).2.2.1 (x_Mf kML 94).2.2.2) := by rfl
set_option maxRecDepth 100000 in
theorem k_c95 : lw_tbl[1082]? = some (.code (x_Mf kML 95).1 (x_Mf kML 95).2.1 (x_Mf kML 95).2.2.1 (x_Mf kML 95).2.2.2) := by rfl
set_option maxRecDepth 100000 in
theorem k_c96 : lw_tbl[1096]? = some (.code (x_Mf kML 96).1 (x_Mf kML 96).2.1 (x_Mf kML 96).2.2.1 (x_Mf kML 96).2.2.2) := by rfl
set_option maxRecDepth 100000 in
theorem k_c97 : lw_tbl[129]? = some (.code (x_Mf kML 97).1 (x_Mf kML 97).2.1 (x_Mf kML 97).2.2.1 (x_Mf kML 97).2.2.2) := by rfl
set_option maxRecDepth 100000 in
theorem k_c98 : lw_tbl[557]? = some (.code (x_Mf kML 98).1 (x_Mf kML 98).2.1 (x_Mf kML 98).2.2.1 (x_Mf kML 98).2.2.2) := by rfl
set_option maxRecDepth 100000 in
theorem k_c99 : lw_tbl[565]? = some (.code (x_Mf kML 99).1 (x_Mf kML 99).2.1 (x_Mf kML 99).2.2.1 (x_Mf kML 99).2.2.2) := by rfl
set_option maxRecDepth 100000 in
theorem k_c100 : lw_tbl[569]? = some (.code (x_Mf kML 100).1 (x_Mf kML 100).2.1 (x_Mf kML 100).2.2.1 (x_Mf kML 100).2.2.2) := by rfl
set_option maxRecDepth 100000 in
theorem k_c101 : lw_tbl[861]? = some (.code (x_Mf kML 101).1 (x_Mf kML 101).2.1 (x_Mf kML 101).2.2.1 (x_Mf kML 101).2.2.2) := by rfl
set_option maxRecDepth 100000 in
theorem k_c102 : lw_tbl[890]? = some (.code (x_Mf kML 102).1 (x_Mf kML 102).2.1 (x_Mf kML 102).2.2.1 (x_Mf kML 102).2.2.2) := by rfl
set_option maxRecDepth 100000 in
theorem k_c103 : lw_tbl[962]? = some (.code (x_Mf kML 103).1 (x_Mf kML 103).2.1 (x_Mf kML 103).2.2.1 (x_Mf kML 103).2.2.2) := by rfl
set_option maxRecDepth 100000 in
theorem k_c104 : lw_tbl[1162]? = some (.code (x_Mf kML 104).1 (x_Mf kML 104).2.1 (x_Mf kML 104).2.2.1 (x_Mf kML 104).2.2.2) := by rfl
set_option maxRecDepth 100000 in
theorem k_c105 : lw_tbl[1028]? = some (.code (x_Mf kML 105).1 (x_Mf kML 105).2.1 (x_Mf kML 105).2.2.1 (x_Mf kML 105).2.2.2) := by rfl
set_option maxRecDepth 100000 in
theorem k_c106 : lw_tbl[896]? = some (.code (x_Mf kML 106).1 (x_Mf kML 106).2.1 (x_Mf kML 106).2.2.1 (x_Mf kML 106).2.2.2) := by rfl
set_option maxRecDepth 100000 in
theorem k_c107 : lw_tbl[954]? = some (.code (x_Mf kML 107).1 (x_Mf kML 107).2.1 (x_Mf kML 107).2.2.1 (x_Mf kML 107).2.2.2) := by rfl
set_option maxRecDepth 100000 in
theorem k_c108 : lw_tbl[945]? = some (.code (x_Mf kML 108).1 (x_Mf kML 108).2.1 (x_Mf kML 108).2.2.1 (x_Mf kML 108).2.2.2) := by rfl
set_option maxRecDepth 100000 in
theorem k_c109 : lw_tbl[1178]? = some (.code (x_Mf kML 109).1 (x_Mf kML 109).2.1 (x_Mf kML 109).2.2.1 (x_Mf kML 109).2.2.2) := by rfl
set_option maxRecDepth 100000 in
theorem k_c110 : lw_tbl[177]? = some (.code (x_Mf kML 110).1 (x_Mf kML 110).2.1 (x_Mf kML 110).2.2.1 (x_Mf kML 110).2.2.2) := by rfl
set_option maxRecDepth 100000 in
theorem k_c111 : lw_tbl[598]? = some (.code (x_Mf kML 111).1 (x_Mf kML 111).2.1 (x_Mf kML 111).2.2.1 (x_Mf kML 111).2.2.2) := by rfl
set_option maxRecDepth 100000 in
theorem k_c112 : lw_tbl[765]? = some (.code (x_Mf kML 112).1 (x_Mf kML 112).2.1 (x_Mf kML 112).2.2.1 (x_Mf kML 112).2.2.2) := by rfl
set_option maxRecDepth 100000 in
theorem k_c113 : lw_tbl[871]? = some (.code (x_Mf kML 113).1 (x_Mf kML 113).2.1 (x_Mf kML 113).2.2.1 (x_Mf kML 113).2.2.2) := by rfl
set_option maxRecDepth 100000 in
theorem k_c114 : lw_tbl[773]? = some (.code (x_Mf kML 114).1 (x_Mf kML 114).2.1 (x_Mf kML 114).2.2.1 (x_Mf kML 114).2.2.2) := by rfl
set_option maxRecDepth 100000 in
theorem k_c115 : lw_tbl[789]? = some (.code (x_Mf kML 115).1 (x_Mf kML 115).2.1 (x_Mf kML 115).2.2.1 (x_Mf kML 115).2.2.2) := by rfl
set_option maxRecDepth 100000 in
theorem k_c116 : lw_tbl[793]? = some (.code (x_Mf kML 116).1 (x_Mf kML 116).2.1 (x_Mf kML 116).2.2.1 (x_Mf kML 116).2.2.2) := by rfl
set_option maxRecDepth 100000 in
theorem k_c117 : lw_tbl[922]? = some (.code (x_Mf kML 117).1 (x_Mf kML 117).2.1 (x_Mf kML 117).2.2.1 (x_Mf kML 117).2.2.2) := by rfl
set_option maxRecDepth 100000 in
theorem k_c118 : lw_tbl[918]? = some (.code (x_Mf kML 118).1 (x_Mf kML 118).2.1 (x_Mf kML 118).2.2.1 (x_Mf kML 118).2.2.2) := by rfl
set_option maxRecDepth 100000 in
theorem k_c119 : lw_tbl[1018]? = some (.code (x_Mf kML 119).1 (x_Mf kML 119).2.1 (x_Mf kML 119).2.2.1 (x_Mf kML 119).2.2.2) := by rfl
set_option maxRecDepth 100000 in
theorem k_c120 : lw_tbl[1022]? = some (.code (x_Mf kML 120).1 (x_Mf kML 120).2.1 (x_Mf kML 120).2.2.1 (x_Mf kML 120).2.2.2) := by rfl
set_option maxRecDepth 100000 in
theorem k_c121 : lw_tbl[926]? = some (.code (x_Mf kML 121).1 (x_Mf kML 121).2.1 (x_Mf kML 121).2.2.1 (x_Mf kML 121).2.2.2) := by rfl
set_option maxRecDepth 100000 in
theorem k_c122 : lw_tbl[304]? = some (.code (x_Mf kML 122).1 (x_Mf kML 122).2.1 (x_Mf kML 122).2.2.1 (x_Mf kML 122).2.2.2) := by rfl
set_option maxRecDepth 100000 in
theorem k_c123 : lw_tbl[594]? = some (.code (x_Mf kML 123).1 (x_Mf kML 123).2.1 (x_Mf kML 123).2.2.1 (x_Mf kML 123).2.2.2) := by rfl
set_option maxRecDepth 100000 in
theorem k_c124 : lw_tbl[602]? = some (.code (x_Mf kML 124).1 (x_Mf kML 124).2.1 (x_Mf kML 124).2.2.1 (x_Mf kML 124).2.2.2) := by rfl
set_option maxRecDepth 100000 in
theorem k_c125 : lw_tbl[613]? = some (.code (x_Mf kML 125).1 (x_Mf kML 125).2.1 (x_Mf kML 125).2.2.1 (x_Mf kML 125).2.2.2) := by rfl
set_option maxRecDepth 100000 in
theorem k_c126 : lw_tbl[626]? = some (.code (x_Mf kML 126).1 (x_Mf kML 126).2.1 (x_Mf kML 126).2.2.1 (x_Mf kML 126).2.2.2) := by rfl
set_option maxRecDepth 100000 in
theorem k_c127 : lw_tbl[630]? = some (.code (x_Mf kML 127).1 (x_Mf kML 127).2.1 (x_Mf kML 127).2.2.1 (x_Mf kML 127).2.2.2) := by rfl
set_option maxRecDepth 100000 in
theorem k_c128 : lw_tbl[645]? = some (.code (x_Mf kML 128).1 (x_Mf kML 128).2.1 (x_Mf kML 128).2.2.1 (x_Mf kML 128).2.2.2) := by rfl
set_option maxRecDepth 100000 in
theorem k_c129 : lw_tbl[753]? = some (.code (x_Mf kML 129).1 (x_Mf kML 129).2.1 (x_Mf kML 129).2.2.1 (x_Mf kML 129).2.2.2) := by rfl
set_option maxRecDepth 100000 in
theorem k_c130 : lw_tbl[749]? = some (.code (x_Mf kML 130).1 (x_Mf kML 130).2.1 (x_Mf kML 130).2.2.1 (x_Mf kML 130).2.2.2) := by rfl
set_option maxRecDepth 100000 in
theorem k_c131 : lw_tbl[745]? = some (.code (x_Mf kML 131).1 (x_Mf kML 131).2.1 (x_Mf kML 131).2.2.1 (x_Mf kML 131).2.2.2) := by rfl
set_option maxRecDepth 100000 in
theorem k_c132 : lw_tbl[777]? = some (.code (x_Mf kML 132).1 (x_Mf kML 132).2.1 (x_Mf kML 132).2.2.1 (x_Mf kML 132).2.2.2) := by rfl
set_option maxRecDepth 100000 in
theorem k_c133 : lw_tbl[781]? = some (.code (x_Mf kML 133).1 (x_Mf kML 133).2.1 (x_Mf kML 133).2.2.1 (x_Mf kML 133).2.2.2) := by rfl
set_option maxRecDepth 100000 in
theorem k_c134 : lw_tbl[785]? = some (.code (x_Mf kML 134).1 (x_Mf kML 134).2.1 (x_Mf kML 134).2.2.1 (x_Mf kML 134).2.2.2) := by rfl
set_option maxRecDepth 100000 in
theorem k_c135 : lw_tbl[757]? = some (.code (x_Mf kML 135).1 (x_Mf kML 135).2.1 (x_Mf kML 135).2.2.1 (x_Mf kML 135).2.2.2) := by rfl
set_option maxRecDepth 100000 in
theorem k_c136 : lw_tbl[761]? = some (.code (x_Mf kML 136).1 (x_Mf kML 136).2.1 (x_Mf kML 136).2.2.1 (x_Mf kML 136).2.2.2) := by rfl
set_option maxRecDepth 100000 in
theorem k_c137 : lw_tbl[769]? = some (.code (x_Mf kML 137).1 (x_Mf kML 137).2.1 (x_Mf kML 137).2.2.1 (x_Mf kML 137).2.2.2) := by rfl
set_option maxRecDepth 100000 in
theorem k_c138 : lw_tbl[366]? = some (.code (x_Mf kML 138).1 (x_Mf kML 138).2.1 (x_Mf kML 138).2.2.1 (x_Mf kML 138).2.2.2) := by rfl
set_option maxRecDepth 100000 in
theorem k_c139 : lw_tbl[804]? = some (.code (x_Mf kML 139).1 (x_Mf kML 139).2.1 (x_Mf kML 139).2.2.1 (x_Mf kML 139).2.2.2) := by rfl
set_option maxRecDepth 100000 in
theorem k_c140 : lw_tbl[857]? = some (.code (x_Mf kML 140).1 (x_Mf kML 140).2.1 (x_Mf kML 140).2.2.1 (x_Mf kML 140).2.2.2) := by rfl
set_option maxRecDepth 100000 in
theorem k_c141 : lw_tbl[1149]? = some (.code (x_Mf kML 141).1 (x_Mf kML 141).2.1 (x_Mf kML 141).2.2.1 (x_Mf kML 141).2.2.2) := by rfl
set_option maxRecDepth 100000 in
theorem k_c142 : lw_tbl[881]? = some (.code (x_Mf kML 142).1 (x_Mf kML 142).2.1 (x_Mf kML 142).2.2.1 (x_Mf kML 142).2.2.2) := by rfl
set_option maxRecDepth 100000 in
theorem k_c143 : lw_tbl[867]? = some (.code (x_Mf kML 143).1 (x_Mf kML 143).2.1 (x_Mf kML 143).2.2.1 (x_Mf kML 143).2.2.2) := by rfl
set_option maxRecDepth 100000 in
theorem k_c144 : lw_tbl[904]? = some (.code (x_Mf kML 144).1 (x_Mf kML 144).2.1 (x_Mf kML 144).2.2.1 (x_Mf kML 144).2.2.2) := by rfl
set_option maxRecDepth 100000 in
theorem k_c145 : lw_tbl[1014]? = some (.code (x_Mf kML 145).1 (x_Mf kML 145).2.1 (x_Mf kML 145).2.2.1 (x_Mf kML 145).2.2.2) := by rfl
set_option maxRecDepth 100000 in
theorem k_c146 : lw_tbl[908]? = some (.code (x_Mf kML 146).1 (x_Mf kML 146).2.1 (x_Mf kML 146).2.2.1 (x_Mf kML 146).2.2.2) := by rfl
set_option maxRecDepth 100000 in
theorem k_c147 : lw_tbl[932]? = some (.code (x_Mf kML 147).1 (x_Mf kML 147).2.1 (x_Mf kML 147).2.2.1 (x_Mf kML 147).2.2.2) := by rfl
set_option maxRecDepth 100000 in
theorem k_c148 : lw_tbl[911]? = some (.code (x_Mf kML 148).1 (x_Mf kML 148).2.1 (x_Mf kML 148).2.2.1 (x_Mf kML 148).2.2.2) := by rfl
set_option maxRecDepth 100000 in
theorem k_c149 : lw_tbl[914]? = some (.code (x_Mf kML 149).1 (x_Mf kML 149).2.1 (x_Mf kML 149).2.2.1 (x_Mf kML 149).2.2.2) := by rfl
set_option maxRecDepth 100000 in
theorem k_c150 : lw_tbl[970]? = some (.code (x_Mf kML 150).1 (x_Mf kML 150).2.1 (x_Mf kML 150).2.2.1 (x_Mf kML 150).2.2.2) := by rfl
set_option maxRecDepth 100000 in
theorem k_c151 : lw_tbl[966]? = some (.code (x_Mf kML 151).1 (x_Mf kML 151).2.1 (x_Mf kML 151).2.2.1 (x_Mf kML 151).2.2.2) := by rfl
set_option maxRecDepth 100000 in
theorem k_c152 : lw_tbl[1045]? = some (.code (x_Mf kML 152).1 (x_Mf kML 152).2.1 (x_Mf kML 152).2.2.1 (x_Mf kML 152).2.2.2) := by rfl
set_option maxRecDepth 100000 in
theorem k_c153 : lw_tbl[1104]? = some (.code (x_Mf kML 153).1 (x_Mf kML 153).2.1 (x_Mf kML 153).2.2.1 (x_Mf kML 153).2.2.2) := by rfl
set_option maxRecDepth 100000 in
theorem k_c154 : lw_tbl[1115]? = some (.code (x_Mf kML 154).1 (x_Mf kML 154).2.1 (x_Mf kML 154).2.2.1 (x_Mf kML 154).2.2.2) := by rfl
set_option maxRecDepth 100000 in
theorem k_c155 : lw_tbl[1121]? = some (.code (x_Mf kML 155).1 (x_Mf kML 155).2.1 (x_Mf kML 155).2.2.1 (x_Mf kML 155).2.2.2) := by rfl
set_option maxRecDepth 100000 in
theorem k_c156 : lw_tbl[853]? = some (.code (x_Mf kML 156).1 (x_Mf kML 156).2.1 (x_Mf kML 156).2.2.1 (x_Mf kML 156).2.2.2) := by rfl
set_option maxRecDepth 100000 in
theorem k_c157 : lw_tbl[886]? = some (.code (x_Mf kML 157).1 (x_Mf kML 157).2.1 (x_Mf kML 157).2.2.1 (x_Mf kML 157).2.2.2) := by rfl
set_option maxRecDepth 100000 in
theorem k_c158 : lw_tbl[900]? = some (.code (x_Mf kML 158).1 (x_Mf kML 158).2.1 (x_Mf kML 158).2.2.1 (x_Mf kML 158).2.2.2) := by rfl
set_option maxRecDepth 100000 in
theorem k_c159 : lw_tbl[403]? = some (.code (x_Mf kML 159).1 (x_Mf kML 159).2.1 (x_Mf kML 159).2.2.1 (x_Mf kML 159).2.2.2) := by rfl
set_option maxRecDepth 100000 in
theorem k_c160 : lw_tbl[998]? = some (.code (x_Mf kML 160).1 (x_Mf kML 160).2.1 (x_Mf kML 160).2.2.1 (x_Mf kML 160).2.2.2) := by rfl
set_option maxRecDepth 100000 in
theorem k_c161 : lw_tbl[1068]? = some (.code (x_Mf kML 161).1 (x_Mf kML 161).2.1 (x_Mf kML 161).2.2.1 (x_Mf kML 161).2.2.2) := by rfl
set_option maxRecDepth 100000 in
theorem k_c162 : lw_tbl[1010]? = some (.code (x_Mf kML 162).1 (x_Mf kML 162).2.1 (x_Mf kML 162).2.2.1 (x_Mf kML 162).2.2.2) := by rfl
set_option maxRecDepth 100000 in
theorem k_c163 : lw_tbl[1055]? = some (.code (x_Mf kML 163).1 (x_Mf kML 163).2.1 (x_Mf kML 163).2.2.1 (x_Mf kML 163).2.2.2) := by rfl
set_option maxRecDepth 100000 in
theorem k_c164 : lw_tbl[1064]? = some (.code (x_Mf kML 164).1 (x_Mf kML 164).2.1 (x_Mf kML 164).2.2.1 (x_Mf kML 164).2.2.2) := by rfl
set_option maxRecDepth 100000 in
theorem k_c165 : lw_tbl[1040]? = some (.code (x_Mf kML 165).1 (x_Mf kML 165).2.1 (x_Mf kML 165).2.2.1 (x_Mf kML 165).2.2.2) := by rfl
set_option maxRecDepth 100000 in
theorem k_c166 : lw_tbl[1032]? = some (.code (x_Mf kML 166).1 (x_Mf kML 166).2.1 (x_Mf kML 166).2.2.1 (x_Mf kML 166).2.2.2) := by rfl
set_option maxRecDepth 100000 in
theorem k_c167 : lw_tbl[1050]? = some (.code (x_Mf kML 167).1 (x_Mf kML 167).2.1 (x_Mf kML 167).2.2.1 (x_Mf kML 167).2.2.2) := by rfl
set_option maxRecDepth 100000 in
theorem k_c168 : lw_tbl[1060]? = some (.code (x_Mf kML 168).1 (x_Mf kML 168).2.1 (x_Mf kML 168).2.2.1 (x_Mf kML 168).2.2.2) := by rfl
set_option maxRecDepth 100000 in
theorem k_c169 : lw_tbl[135]? = some (.code (x_Mf kML 169).1 (x_Mf kML 169).2.1 (x_Mf kML 169).2.2.1 (x_Mf kML 169).2.2.2) := by rfl
set_option maxRecDepth 100000 in
theorem k_c170 : lw_tbl[941]? = some (.code (x_Mf kML 170).1 (x_Mf kML 170).2.1 (x_Mf kML 170).2.2.1 (x_Mf kML 170).2.2.2) := by rfl
set_option maxRecDepth 100000 in
theorem k_c171 : lw_tbl[606]? = some (.code (x_Mf kML 171).1 (x_Mf kML 171).2.1 (x_Mf kML 171).2.2.1 (x_Mf kML 171).2.2.2) := by rfl
set_option maxRecDepth 100000 in
theorem k_c172 : lw_tbl[937]? = some (.code (x_Mf kML 172).1 (x_Mf kML 172).2.1 (x_Mf kML 172).2.2.1 (x_Mf kML 172).2.2.2) := by rfl
set_option maxRecDepth 100000 in
theorem k_c173 : lw_tbl[582]? = some (.code (x_Mf kML 173).1 (x_Mf kML 173).2.1 (x_Mf kML 173).2.2.1 (x_Mf kML 173).2.2.2) := by rfl
set_option maxRecDepth 100000 in
theorem k_c174 : lw_tbl[1004]? = some (.code (x_Mf kML 174).1 (x_Mf kML 174).2.1 (x_Mf kML 174).2.2.1 (x_Mf kML 174).2.2.2) := by rfl
set_option maxRecDepth 100000 in
theorem k_c175 : lw_tbl[1136]? = some (.code (x_Mf kML 175).1 (x_Mf kML 175).2.1 (x_Mf kML 175).2.2.1 (x_Mf kML 175).2.2.2) := by rfl
set_option maxRecDepth 100000 in
theorem k_c176 : lw_tbl[340]? = some (.code (x_Mf kML 176).1 (x_Mf kML 176).2.1 (x_Mf kML 176).2.2.1 (x_Mf kML 176).2.2.2) := by rfl
set_option maxRecDepth 100000 in
theorem k_c177 : lw_tbl[844]? = some (.code (x_Mf kML 177).1 (x_Mf kML 177).2.1 (x_Mf kML 177).2.2.1 (x_Mf kML 177).2.2.2) := by rfl
set_option maxRecDepth 100000 in
theorem k_c178 : lw_tbl[848]? = some (.code (x_Mf kML 178).1 (x_Mf kML 178).2.1 (x_Mf kML 178).2.2.1 (x_Mf kML 178).2.2.2) := by rfl
set_option maxRecDepth 100000 in
theorem k_c179 : lw_tbl[1170]? = some (.code (x_Mf kML 179).1 (x_Mf kML 179).2.1 (x_Mf kML 179).2.2.1 (x_Mf kML 179).2.2.2) := by rfl
set_option maxRecDepth 100000 in
theorem k_c180 : lw_tbl[159]? = some (.code (x_Mf kML 180).1 (x_Mf kML 180).2.1 (x_Mf kML 180).2.2.1 (x_Mf kML 180).2.2.2) := by rfl
set_option maxRecDepth 100000 in
theorem k_c181 : lw_tbl[829]? = some (.code (x_Mf kML 181).1 (x_Mf kML 181).2.1 (x_Mf kML 181).2.2.1 (x_Mf kML 181).2.2.2) := by rfl
set_option maxRecDepth 100000 in
theorem k_c182 : lw_tbl[1087]? = some (.code (x_Mf kML 182).1 (x_Mf kML 182).2.1 (x_Mf kML 182).2.2.1 (x_Mf kML 182).2.2.2) := by rfl
set_option maxRecDepth 100000 in
theorem k_c183 : lw_tbl[1091]? = some (.code (x_Mf kML 183).1 (x_Mf kML 183).2.1 (x_Mf kML 183).2.2.1 (x_Mf kML 183).2.2.2) := by rfl
set_option maxRecDepth 100000 in
theorem k_c184 : lw_tbl[1184]? = some (.code (x_Mf kML 184).1 (x_Mf kML 184).2.1 (x_Mf kML 184).2.2.1 (x_Mf kML 184).2.2.2) := by rfl
set_option maxRecDepth 100000 in
theorem k_c185 : lw_tbl[121]? = some (.code (x_Mf kML 185).1 (x_Mf kML 185).2.1 (x_Mf kML 185).2.2.1 (x_Mf kML 185).2.2.2) := by rfl
set_option maxRecDepth 100000 in
theorem k_c186 : lw_tbl[530]? = some (.code (x_Mf kML 186).1 (x_Mf kML 186).2.1 (x_Mf kML 186).2.2.1 (x_Mf kML 186).2.2.2) := by rfl
set_option maxRecDepth 100000 in
theorem k_c187 : lw_tbl[534]? = some (.code (x_Mf kML 187).1 (x_Mf kML 187).2.1 (x_Mf kML 187).2.2.1 (x_Mf kML 187).2.2.2) := by rfl
set_option maxRecDepth 100000 in
theorem k_c188 : lw_tbl[550]? = some (.code (x_Mf kML 188).1 (x_Mf kML 188).2.1 (x_Mf kML 188).2.2.1 (x_Mf kML 188).2.2.2) := by rfl
set_option maxRecDepth 100000 in
theorem k_c189 : lw_tbl[561]? = some (.code (x_Mf kML 189).1 (x_Mf kML 189).2.1 (x_Mf kML 189).2.2.1 (x_Mf kML 189).2.2.2) := by rfl
set_option maxRecDepth 100000 in
theorem k_c190 : lw_tbl[574]? = some (.code (x_Mf kML 190).1 (x_Mf kML 190).2.1 (x_Mf kML 190).2.2.1 (x_Mf kML 190).2.2.2) := by rfl
set_option maxRecDepth 100000 in
theorem k_c191 : lw_tbl[586]? = some (.code (x_Mf kML 191).1 (x_Mf kML 191).2.1 (x_Mf kML 191).2.2.1 (x_Mf kML 191).2.2.2) := by rfl
set_option maxRecDepth 100000 in
theorem k_c192 : lw_tbl[590]? = some (.code (x_Mf kML 192).1 (x_Mf kML 192).2.1 (x_Mf kML 192).2.2.1 (x_Mf kML 192).2.2.2) := by rfl
set_option maxRecDepth 100000 in
theorem k_c193 : lw_tbl[809]? = some (.code (x_Mf kML 193).1 (x_Mf kML 193).2.1 (x_Mf kML 193).2.2.1 (x_Mf kML 193).2.2.2) := by rfl
set_option maxRecDepth 100000 in
theorem k_c194 : lw_tbl[813]? = some (.code (x_Mf kML 194).1 (x_Mf kML 194).2.1 (x_Mf kML 194).2.2.1 (x_Mf kML 194).2.2.2) := by rfl
set_option maxRecDepth 100000 in
theorem k_c195 : lw_tbl[825]? = some (.code (x_Mf kML 195).1 (x_Mf kML 195).2.1 (x_Mf kML 195).2.2.1 (x_Mf kML 195).2.2.2) := by rfl
set_option maxRecDepth 100000 in
theorem k_c196 : lw_tbl[836]? = some (.code (x_Mf kML 196).1 (x_Mf kML 196).2.1 (x_Mf kML 196).2.2.1 (x_Mf kML 196).2.2.2) := by rfl
set_option maxRecDepth 100000 in
theorem k_c197 : lw_tbl[840]? = some (.code (x_Mf kML 197).1 (x_Mf kML 197).2.1 (x_Mf kML 197).2.2.1 (x_Mf kML 197).2.2.2) := by rfl
set_option maxRecDepth 100000 in
theorem k_c198 : lw_tbl[950]? = some (.code (x_Mf kML 198).1 (x_Mf kML 198).2.1 (x_Mf kML 198).2.2.1 (x_Mf kML 198).2.2.2) := by rfl
set_option maxRecDepth 100000 in
theorem k_c199 : lw_tbl[958]? = some (.code (x_Mf kML 199).1 (x_Mf kML 199).2.1 (x_Mf kML 199).2.2.1 (x_Mf kML 199).2.2.2) := by rfl
set_option maxRecDepth 100000 in
theorem k_c200 : lw_tbl[974]? = some (.code (x_Mf kML 200).1 (x_Mf kML 200).2.1 (x_Mf kML 200).2.2.1 (x_Mf kML 200).2.2.2) := by rfl
set_option maxRecDepth 100000 in
theorem k_c201 : lw_tbl[978]? = some (.code (x_Mf kML 201).1 (x_Mf kML 201).2.1 (x_Mf kML 201).2.2.1 (x_Mf kML 201).2.2.2) := by rfl
set_option maxRecDepth 100000 in
theorem k_c202 : lw_tbl[983]? = some (.code (x_Mf kML 202).1 (x_Mf kML 202).2.1 (x_Mf kML 202).2.2.1 (x_Mf kML 202).2.2.2) := by rfl
set_option maxRecDepth 100000 in
theorem k_c203 : lw_tbl[990]? = some (.code (x_Mf kML 203).1 (x_Mf kML 203).2.1 (x_Mf kML 203).2.2.1 (x_Mf kML 203).2.2.2) := by rfl
set_option maxRecDepth 100000 in
theorem k_c204 : lw_tbl[994]? = some (.code (x_Mf kML 204).1 (x_Mf kML 204).2.1 (x_Mf kML 204).2.2.1 (x_Mf kML 204).2.2.2) := by rfl
set_option maxRecDepth 100000 in
theorem k_c205 : lw_tbl[1072]? = some (.code (x_Mf kML 205).1 (x_Mf kML 205).2.1 (x_Mf kML 205).2.2.1 (x_Mf kML 205).2.2.2) := by rfl
set_option maxRecDepth 100000 in
theorem k_c206 : lw_tbl[1100]? = some (.code (x_Mf kML 206).1 (x_Mf kML 206).2.1 (x_Mf kML 206).2.2.1 (x_Mf kML 206).2.2.2) := by rfl
set_option maxRecDepth 100000 in
theorem k_c207 : lw_tbl[1110]? = some (.code (x_Mf kML 207).1 (x_Mf kML 207).2.1 (x_Mf kML 207).2.2.1 (x_Mf kML 207).2.2.2) := by rfl
set_option maxRecDepth 100000 in
theorem k_c208 : lw_tbl[1125]? = some (.code (x_Mf kML 208).1 (x_Mf kML 208).2.1 (x_Mf kML 208).2.2.1 (x_Mf kML 208).2.2.2) := by rfl
set_option maxRecDepth 100000 in
theorem k_c209 : lw_tbl[1158]? = some (.code (x_Mf kML 209).1 (x_Mf kML 209).2.1 (x_Mf kML 209).2.2.1 (x_Mf kML 209).2.2.2) := by rfl
set_option maxRecDepth 100000 in
theorem k_c210 : lw_tbl[1166]? = some (.code (x_Mf kML 210).1 (x_Mf kML 210).2.1 (x_Mf kML 210).2.2.1 (x_Mf kML 210).2.2.2) := by rfl
set_option maxRecDepth 100000 in
theorem k_c211 : lw_tbl[1174]? = some (.code (x_Mf kML 211).1 (x_Mf kML 211).2.1 (x_Mf kML 211).2.2.1 (x_Mf kML 211).2.2.2) := by rfl
set_option maxRecDepth 100000 in
theorem k_c212 : lw_tbl[1190]? = some (.code (x_Mf kML 212).1 (x_Mf kML 212).2.1 (x_Mf kML 212).2.2.1 (x_Mf kML 212).2.2.2) := by rfl
set_option maxRecDepth 100000 in
theorem k_c213 : lw_tbl[542]? = some (.code (x_Mf kML 213).1 (x_Mf kML 213).2.1 (x_Mf kML 213).2.2.1 (x_Mf kML 213).2.2.2) := by rfl
set_option maxRecDepth 100000 in
theorem k_c214 : lw_tbl[800]? = some (.code (x_Mf kML 214).1 (x_Mf kML 214).2.1 (x_Mf kML 214).2.2.1 (x_Mf kML 214).2.2.2) := by rfl
set_option maxRecDepth 100000 in
theorem k_c215 : lw_tbl[546]? = some (.code (x_Mf kML 215).1 (x_Mf kML 215).2.1 (x_Mf kML 215).2.2.1 (x_Mf kML 215).2.2.2) := by rfl
set_option maxRecDepth 100000 in
theorem k_c216 : lw_tbl[817]? = some (.code (x_Mf kML 216).1 (x_Mf kML 216).2.1 (x_Mf kML 216).2.2.1 (x_Mf kML 216).2.2.2) := by rfl
set_option maxRecDepth 100000 in
theorem k_c217 : lw_tbl[578]? = some (.code (x_Mf kML 217).1 (x_Mf kML 217).2.1 (x_Mf kML 217).2.2.1 (x_Mf kML 217).2.2.2) := by rfl
set_option maxRecDepth 100000 in
theorem k_c218 : lw_tbl[538]? = some (.code (x_Mf kML 218).1 (x_Mf kML 218).2.1 (x_Mf kML 218).2.2.1 (x_Mf kML 218).2.2.2) := by rfl
set_option maxRecDepth 100000 in
theorem k_c219 : lw_tbl[553]? = some (.code (x_Mf kML 219).1 (x_Mf kML 219).2.1 (x_Mf kML 219).2.2.1 (x_Mf kML 219).2.2.2) := by rfl
set_option maxRecDepth 100000 in
theorem k_c220 : lw_tbl[877]? = some (.code (x_Mf kML 220).1 (x_Mf kML 220).2.1 (x_Mf kML 220).2.2.1 (x_Mf kML 220).2.2.2) := by rfl
set_option maxRecDepth 100000 in
theorem k_c221 : lw_tbl[619]? = some (.code (x_Mf kML 221).1 (x_Mf kML 221).2.1 (x_Mf kML 221).2.2.1 (x_Mf kML 221).2.2.2) := by rfl
set_option maxRecDepth 100000 in
theorem k_c222 : lw_tbl[616]? = some (.code (x_Mf kML 222).1 (x_Mf kML 222).2.1 (x_Mf kML 222).2.2.1 (x_Mf kML 222).2.2.2) := by rfl
set_option maxRecDepth 100000 in
theorem k_c223 : lw_tbl[622]? = some (.code (x_Mf kML 223).1 (x_Mf kML 223).2.1 (x_Mf kML 223).2.2.1 (x_Mf kML 223).2.2.2) := by rfl
set_option maxRecDepth 100000 in
theorem k_c224 : lw_tbl[609]? = some (.code (x_Mf kML 224).1 (x_Mf kML 224).2.1 (x_Mf kML 224).2.2.1 (x_Mf kML 224).2.2.2) := by rfl
set_option maxRecDepth 100000 in
theorem k_c225 : lw_tbl[821]? = some (.code (x_Mf kML 225).1 (x_Mf kML 225).2.1 (x_Mf kML 225).2.2.1 (x_Mf kML 225).2.2.2) := by rfl
set_option maxRecDepth 100000 in
theorem k_c1000 : lw_tbl[635]? = some (.code (x_Mf kML 1000).1 (x_Mf kML 1000).2.1 (x_Mf kML 1000).2.2.1 (x_Mf kML 1000).2.2.2) := by rfl
set_option maxRecDepth 100000 in
theorem k_c1001 : lw_tbl[649]? = some (.code (x_Mf kML 1001).1 (x_Mf kML 1001).2.1 (x_Mf kML 1001).2.2.1 (x_Mf kML 1001).2.2.2) := by rfl
set_option maxRecDepth 100000 in
theorem k_c1002 : lw_tbl[688]? = some (.code (x_Mf kML 1002).1 (x_Mf kML 1002).2.1 (x_Mf kML 1002).2.2.1 (x_Mf kML 1002).2.2.2) := by rfl
theorem k_wI : ∀ w ∈ kMU.map (fun μ => Cond.initialized (x_Mf kML μ).1.cls), w ∈ lw_tbl ∧ goodWord w = true := x_by [110, 110, 110, 110, 110, 110, 110, 110, 110, 110, 110, 110, 110, 110, 110, 110, 110, 110, 110, 110, 110, 110, 110, 110, 110, 110, 110, 110, 110, 110, 110, 110, 110, 110, 110, 110, 110, 110, 110, 110, 110, 110, 110, 110, 110, 110, 110, 110, 110, 110, 110, 110, 110, 110, 110, 110, 110, 110, 110, 110, 110, 110, 110, 110, 110, 110, 110, 110, 110, 110, 110, 110, 110, 110, 110, 110, 110, 110, 110, 110, 110, 110, 110, 110, 110, 103, 103, 109, 109, 109, 109, 109, 108, 108, 108, 108, 98, 98, 98, 98, 98, 98, 98, 98, 98, 98, 98, 98, 98, 102, 102, 102, 102, 102, 102, 102, 102, 102, 102, 102, 102, 104, 104, 104, 104, 104, 104, 104, 104, 104, 104, 104, 104, 104, 104, 104, 104, 106, 106, 106, 106, 106, 106, 106, 106, 106, 106, 106, 106, 106, 106, 106, 106, 106, 106, 106, 106, 106, 107, 107, 107, 107, 107, 107, 107, 107, 107, 107, 99, 99, 99, 99, 99, 99, 99, 105, 105, 105, 105, 101, 101, 101, 101, 101, 97, 97, 97, 97, 97, 97, 97, 97, 97, 97, 97, 97, 97, 97, 97, 97, 97, 97, 97, 97, 97, 97, 97, 97, 97, 97, 97, 97, 97, 97, 97, 97, 97, 97, 97, 97, 97, 97, 97, 97, 97, 111, 111, 111] (by decide +kernel) (by decide +kernel)
theorem k_wB : ∀ w ∈ kCL.flatMap (fun q => u_ws q.1.1 q.1.2.1 q.1.2.2), w ∈ lw_tbl ∧ goodWord w = true := x_by [1250, 1252, 1254, 1256, 1258, 1260, 1262, 1264, 1266, 1268, 1270, 1272, 1274, 1276, 1278, 1280, 1282, 1284, 1286, 1288, 1290, 1292, 1294, 1296, 1298, 1300, 1302, 1304, 1306, 1308, 1310, 1312, 1314, 1316, 1318, 1320, 1322, 1324, 1326, 1328, 1330, 1332, 1334, 1336, 1338, 1340, 1342, 1344, 1346, 1348, 1350, 1352, 1354, 485, 487, 489, 491, 493, 461, 463, 465, 467, 469, 261, 263, 265, 267, 269, 271, 273, 275, 277, 279, 281, 283, 285, 287, 289, 291, 293, 295, 189, 191, 193, 195, 197, 199, 319, 321, 323, 325, 327, 329, 331, 333, 380, 382, 384, 386, 388, 390, 392, 394, 421, 423, 425, 427, 429, 431, 433, 435, 437, 439, 441, 443, 149, 151, 349, 351, 353, 355, 357, 359, 166, 168, 170, 506, 508, 510, 512, 514, 516, 518, 520, 522, 524] (by decide +kernel) (by decide +kernel)
theorem k_w0 : ∀ w ∈ (((kPL.getD 0 ("", [])).2.drop 0).take 40).flatMap (fun r => x_need kCL kX kML (kPL.getD 0 ("", [])).1 r.1 r.2), w ∈ lw_tbl ∧ goodWord w = true := x_by [1196, 123, 124, 1198, 1199, 1202, 1203, 1204, 1205, 1206, 1207, 1211, 1213, 1215, 1216, 1217, 1223, 1225, 1226, 1227, 1228, 1229, 1232, 1237, 1238, 1239, 1240, 1241, 1245, 1249, 1197, 1200, 1518, 1519, 1201, 1369, 1370, 1372, 39, 1378, 1380, 40, 1382, 1384, 41, 1390, 1392, 42, 1208, 1520, 1522, 66] (by decide +kernel) (by decide +kernel)
theorem k_w1 : ∀ w ∈ (((kPL.getD 0 ("", [])).2.drop 40).take 40).flatMap (fun r => x_need kCL kX kML (kPL.getD 0 ("", [])).1 r.1 r.2), w ∈ lw_tbl ∧ goodWord w = true := x_by [1218, 1398, 1400, 43, 1210, 1214, 1212, 1414, 1416, 44, 1219, 1430, 1432, 46, 1220, 1221, 1222, 1434, 1436, 47, 1438, 1440, 48, 1442, 1444, 49, 1446, 1448, 50, 1234, 1235, 1230, 1458, 1460, 53, 1474, 1476, 57, 1426, 1428, 45, 1470, 1472, 56, 1478, 1480, 58, 1466, 1468, 55, 1462, 1464, 54, 1233, 1231, 1454, 1456, 52, 1486, 1488, 60, 1490, 1492, 61, 1494, 1496, 62, 1482, 1484, 59, 1236, 1450, 1452, 51, 1224, 1564, 1566, 77, 1560, 1562, 76, 1544, 1546, 72, 1532, 1534, 69, 1540, 1542, 71] (by decide +kernel) (by decide +kernel)
theorem k_w2 : ∀ w ∈ (((kPL.getD 0 ("", [])).2.drop 80).take 40).flatMap (fun r => x_need kCL kX kML (kPL.getD 0 ("", [])).1 r.1 r.2), w ∈ lw_tbl ∧ goodWord w = true := x_by [1548, 1550, 73, 1552, 1554, 74, 1209, 1556, 1558, 75, 1536, 1538, 70, 1568, 1570, 78, 1506, 1508, 63, 1510, 1512, 64, 1514, 1516, 65, 1524, 1526, 67, 1528, 1530, 68, 1588, 1590, 81, 1580, 1582, 79, 1584, 1586, 80, 1616, 1618, 83, 1612, 1614, 82, 1242, 1243, 1620, 1622, 84, 1624, 1626, 85, 1640, 1642, 88, 1636, 1638, 87, 1244, 1632, 1634, 86, 1652, 1653, 1655, 89, 1657, 1659, 90, 1669, 1671, 92, 1665, 1667, 91, 1248, 1246, 1681, 1683, 93, 1247, 1685, 1687, 94, 1689, 1691, 95] (by decide +kernel) (by decide +kernel)
theorem k_w3 : ∀ w ∈ (((kPL.getD 1 ("", [])).2.drop 0).take 40).flatMap (fun r => x_need kCL kX kML (kPL.getD 1 ("", [])).1 r.1 r.2), w ∈ lw_tbl ∧ goodWord w = true := x_by [117, 118, 97, 119, 120, 1191, 1192, 110, 1193, 1194, 527, 528, 529, 1361, 1362, 1363, 531, 532, 533, 1365, 1366, 1367, 547, 548, 549, 1374, 1375, 1376, 558, 559, 560, 1386, 1387, 1388, 571, 572, 573, 1410, 1411, 1412, 583, 584, 585, 1418, 1419, 1420, 587, 588, 589, 1422, 1423, 1424, 806, 807, 808, 1498, 1499, 1500, 810, 811, 812, 1394, 1395, 1396, 822, 823, 824, 1402, 1403, 1404, 833, 834, 835, 1406, 1407, 1408, 837, 838, 839, 1502, 1503, 1504, 947, 948, 949, 1572, 1573, 1574, 955, 956, 957, 1576, 1577, 1578, 971, 972, 973, 1592, 1593, 1594, 975, 976, 977, 1596, 1597, 1598, 980, 981, 982, 1600, 1601, 1602, 987, 988, 989, 1604, 1605, 1606] (by decide +kernel) (by decide +kernel)
theorem k_w4 : ∀ w ∈ (((kPL.getD 1 ("", [])).2.drop 40).take 40).flatMap (fun r => x_need kCL kX kML (kPL.getD 1 ("", [])).1 r.1 r.2), w ∈ lw_tbl ∧ goodWord w = true := x_by [991, 992, 993, 1608, 1609, 1610, 1069, 1070, 1071, 1628, 1629, 1630, 1097, 1098, 1099, 1644, 1645, 1646, 1107, 1108, 1109, 1648, 1649, 1650, 1122, 1123, 1124, 1661, 1662, 1663, 1155, 1156, 1157, 1673, 1674, 1675, 1163, 1164, 1165, 1357, 1358, 1359, 1171, 1172, 1173, 1677, 1678, 1679, 1187, 1188, 1189, 1693, 1694, 1695] (by decide +kernel) (by decide +kernel)
theorem k_w5 : ∀ w ∈ (((kPL.getD 2 ("", [])).2.drop 0).take 40).flatMap (fun r => x_need kCL kX kML (kPL.getD 2 ("", [])).1 r.1 r.2), w ∈ lw_tbl ∧ goodWord w = true := x_by [477, 123, 124, 480, 484, 482, 483, 478, 1130, 203, 1131, 855, 856, 233, 1132, 1043, 1044, 1133, 1134, 1135, 1137, 1139, 36, 1151, 1153, 38, 222, 1141, 555, 556, 1142, 1144, 37, 1150, 968, 969, 1146, 1147, 1148] (by decide +kernel) (by decide +kernel)
theorem k_w6 : ∀ w ∈ (((kPL.getD 3 ("", [])).2.drop 0).take 40).flatMap (fun r => x_need kCL kX kML (kPL.getD 3 ("", [])).1 r.1 r.2), w ∈ lw_tbl ∧ goodWord w = true := x_by [451, 123, 124, 454, 456, 452, 132, 99, 453, 134, 460, 458, 459, 1077, 203, 1078, 855, 856, 237, 164, 1079, 1081, 34, 145, 1093, 1095, 35, 1083, 580, 581, 1084, 1085, 1086, 1088, 1089, 1090, 1092, 968, 969] (by decide +kernel) (by decide +kernel)
theorem k_w7 : ∀ w ∈ (((kPL.getD 4 ("", [])).2.drop 0).take 40).flatMap (fun r => x_need kCL kX kML (kPL.getD 4 ("", [])).1 r.1 r.2), w ∈ lw_tbl ∧ goodWord w = true := x_by [130, 123, 124, 207, 210, 213, 217, 219, 221, 226, 228, 131, 132, 99, 133, 134, 231, 155, 156, 101, 158, 236, 173, 174, 102, 176, 240, 243, 202, 203, 205, 537, 255, 567, 568, 570, 552, 863, 555, 556, 891, 260, 892, 946, 702, 100, 703, 246, 253, 1179, 796, 795, 116, 1180, 1002, 1003, 1181, 1182, 1183, 1186, 791, 792, 249] (by decide +kernel) (by decide +kernel)
theorem k_w8 : ∀ w ∈ (((kPL.getD 5 ("", [])).2.drop 0).take 40).flatMap (fun r => x_need kCL kX kML (kPL.getD 5 ("", [])).1 r.1 r.2), w ∈ lw_tbl ∧ goodWord w = true := x_by [178, 123, 124, 179, 180, 181, 182, 183, 187, 794, 796, 795, 116, 919, 920, 921, 923, 925, 23, 927, 702, 100, 703, 928, 138, 100, 139, 1019, 1021, 26, 1023] (by decide +kernel) (by decide +kernel)
theorem k_w9 : ∀ w ∈ (((kPL.getD 6 ("", [])).2.drop 0).take 40).flatMap (fun r => x_need kCL kX kML (kPL.getD 6 ("", [])).1 r.1 r.2), w ∈ lw_tbl ∧ goodWord w = true := x_by [305, 123, 124, 306, 174, 102, 176, 308, 312, 315, 316, 314, 595, 596, 597, 310, 599, 601, 3, 317, 318, 742, 744, 8, 146, 603, 604, 605, 608, 610, 612, 4, 623, 625, 5, 615, 621, 627, 629, 6, 685, 686, 687, 632, 633, 634, 642, 644, 7, 646, 647, 648, 746, 748, 9, 186, 750, 752, 10, 754, 756, 11, 770, 771, 772, 774, 776, 14, 786, 787, 788, 778, 780, 15, 762, 763, 764, 782, 784, 16, 758, 760, 12, 766, 768, 13] (by decide +kernel) (by decide +kernel)
theorem k_w10 : ∀ w ∈ (((kPL.getD 6 ("", [])).2.drop 40).take 40).flatMap (fun r => x_need kCL kX kML (kPL.getD 6 ("", [])).1 r.1 r.2), w ∈ lw_tbl ∧ goodWord w = true := x_by [188] (by decide +kernel) (by decide +kernel)
theorem k_w11 : ∀ w ∈ (((kPL.getD 7 ("", [])).2.drop 0).take 40).flatMap (fun r => x_need kCL kX kML (kPL.getD 7 ("", [])).1 r.1 r.2), w ∈ lw_tbl ∧ goodWord w = true := x_by [367, 123, 124, 373, 374, 375, 376, 377, 378, 379, 372, 368, 369, 370, 858, 859, 860, 552, 241, 868, 869, 870, 148, 872, 702, 100, 703, 873, 138, 100, 139, 874, 604, 605, 876, 878, 879, 880, 184, 905, 907, 22, 915, 916, 917, 929, 931, 24, 933, 252, 1015, 1016, 1017, 225, 909, 910, 912, 913, 141, 864, 865, 866, 901, 902, 903, 854, 855, 856, 235, 967, 968, 969, 1046, 203, 239, 1105, 1085, 1086] (by decide +kernel) (by decide +kernel)
theorem k_w12 : ∀ w ∈ (((kPL.getD 7 ("", [])).2.drop 40).take 40).flatMap (fun r => x_need kCL kX kML (kPL.getD 7 ("", [])).1 r.1 r.2), w ∈ lw_tbl ∧ goodWord w = true := x_by [1106, 1089, 1090, 1116, 555, 556, 1117, 1043, 1044, 216, 883, 885, 20, 897, 899, 21, 942, 943, 944, 250, 256, 887, 888, 889, 893, 894, 895, 934, 935, 936] (by decide +kernel) (by decide +kernel)
theorem k_w13 : ∀ w ∈ (((kPL.getD 8 ("", [])).2.drop 0).take 40).flatMap (fun r => x_need kCL kX kML (kPL.getD 8 ("", [])).1 r.1 r.2), w ∈ lw_tbl ∧ goodWord w = true := x_by [404, 123, 124, 409, 405, 132, 99, 406, 134, 413, 414, 415, 416, 417, 418, 419, 411, 412, 407, 999, 203, 232, 144, 1000, 855, 856, 1001, 1002, 1003, 1007, 1009, 25, 1029, 1031, 27, 1037, 1039, 28, 1047, 1049, 29, 1065, 1067, 33, 1033, 604, 605, 1057, 1059, 31, 1051, 935, 936, 1011, 1012, 1013, 1024, 555, 556, 215, 1025, 1026, 1027, 212, 1035, 879, 880, 224, 1056, 138, 100, 139, 420, 1041, 968, 969, 1042, 1043, 1044, 552, 876] (by decide +kernel) (by decide +kernel)
theorem k_w14 : ∀ w ∈ (((kPL.getD 8 ("", [])).2.drop 40).take 40).flatMap (fun r => x_need kCL kX kML (kPL.getD 8 ("", [])).1 r.1 r.2), w ∈ lw_tbl ∧ goodWord w = true := x_by [1052, 1054, 30, 1061, 1063, 32] (by decide +kernel) (by decide +kernel)
theorem k_w15 : ∀ w ∈ (((kPL.getD 9 ("", [])).2.drop 0).take 40).flatMap (fun r => x_need kCL kX kML (kPL.getD 9 ("", [])).1 r.1 r.2), w ∈ lw_tbl ∧ goodWord w = true := x_by [136, 123, 124, 137, 138, 100, 139, 140, 142, 938, 939, 940, 1005, 702, 100, 703, 1006, 604, 605] (by decide +kernel) (by decide +kernel)
theorem k_w16 : ∀ w ∈ (((kPL.getD 10 ("", [])).2.drop 0).take 40).flatMap (fun r => x_need kCL kX kML (kPL.getD 10 ("", [])).1 r.1 r.2), w ∈ lw_tbl ∧ goodWord w = true := x_by [341, 123, 124, 342, 343, 344, 345, 346, 347, 845, 847, 19, 208, 849, 796, 795, 116, 229, 245, 248, 259] (by decide +kernel) (by decide +kernel)
theorem k_w17 : ∀ w ∈ (((kPL.getD 11 ("", [])).2.drop 0).take 40).flatMap (fun r => x_need kCL kX kML (kPL.getD 11 ("", [])).1 r.1 r.2), w ∈ lw_tbl ∧ goodWord w = true := x_by [160, 123, 124, 161, 162, 163, 143, 830, 604, 605, 618, 820, 1185, 796, 795, 116] (by decide +kernel) (by decide +kernel)
theorem k_w18 : ∀ w ∈ (((kPL.getD 12 ("", [])).2.drop 0).take 40).flatMap (fun r => x_need kCL kX kML (kPL.getD 12 ("", [])).1 r.1 r.2), w ∈ lw_tbl ∧ goodWord w = true := x_by [122, 123, 124, 125, 126, 98, 127, 128, 496, 497, 298, 132, 99, 299, 134, 499, 300, 301, 104, 302, 303, 500, 336, 337, 105, 339, 501, 362, 363, 106, 364, 365, 502, 399, 400, 107, 401, 402, 503, 446, 447, 108, 448, 449, 504, 472, 473, 109, 474, 475, 505, 258, 348, 206, 535, 536, 537, 209, 211, 214, 218, 220, 539, 541, 0, 551, 552, 554, 555, 556, 223] (by decide +kernel) (by decide +kernel)
theorem k_w19 : ∀ w ∈ (((kPL.getD 12 ("", [])).2.drop 40).take 40).flatMap (fun r => x_need kCL kX kML (kPL.getD 12 ("", [])).1 r.1 r.2), w ∈ lw_tbl ∧ goodWord w = true := x_by [562, 563, 564, 147, 575, 577, 2, 591, 592, 593, 242, 309, 790, 791, 792, 797, 799, 17, 185, 311, 313, 814, 816, 18, 234, 818, 604, 605, 819, 820, 579, 580, 581, 543, 545, 1, 238, 826, 827, 828, 165, 841, 842, 843, 850, 851, 852, 254, 951, 952, 953, 959, 960, 961, 963, 964, 965, 227, 230, 979, 939, 940, 984, 855, 856, 985, 865, 866, 986, 902, 903, 247, 244, 408, 995, 996, 997, 410, 455, 1073, 1074, 1075, 457] (by decide +kernel) (by decide +kernel)
theorem k_w20 : ∀ w ∈ (((kPL.getD 12 ("", [])).2.drop 80).take 40).flatMap (fun r => x_need kCL kX kML (kPL.getD 12 ("", [])).1 r.1 r.2), w ∈ lw_tbl ∧ goodWord w = true := x_by [1101, 1102, 1103, 1111, 1112, 1113, 1114, 1118, 1119, 1120, 479, 1126, 1127, 1128, 481, 1159, 1160, 1161, 1167, 1168, 1169, 1175, 1176, 1177, 498, 251, 257, 801, 802, 803, 617, 618] (by decide +kernel) (by decide +kernel)
