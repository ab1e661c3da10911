theorem lk_L_13 : zLkV RL 13 yX9_street cX9_street 3 (some .int) 2 9 := ⟨⟨Or.inl (List.mem_of_getElem? (i := 387) (by decide +kernel)), List.mem_of_getElem? (i := 80) (by decide +kernel), List.mem_of_getElem? (i := 390) (by decide +kernel), ⟨by decide, by decide⟩, by decide +kernel, by decide⟩, List.mem_of_getElem? (i := 388) (by decide +kernel), List.mem_of_getElem? (i := 389) (by decide +kernel), _, _, rfl⟩
theorem lk_L_17 : zLkV RL 17 yX10_street cX10_street 3 (some .int) 2 10 := ⟨⟨Or.inl (List.mem_of_getElem? (i := 1367) (by decide +kernel)), List.mem_of_getElem? (i := 90) (by decide +kernel), List.mem_of_getElem? (i := 1370) (by decide +kernel), ⟨by decide, by decide⟩, by decide +kernel, by decide⟩, List.mem_of_getElem? (i := 1368) (by decide +kernel), List.mem_of_getElem? (i := 1369) (by decide +kernel), _, _, rfl⟩
theorem ic_6 : Int32.ofInt 6 = (6 : Int32) := by decide
theorem lk_L_18 : zLkV RL 18 yX9_window cX9_window 7 (some .int) 2 9 := ⟨⟨Or.inl (List.mem_of_getElem? (i := 398) (by decide +kernel)), List.mem_of_getElem? (i := 80) (by decide +kernel), List.mem_of_getElem? (i := 401) (by decide +kernel), ⟨by decide, by decide⟩, by decide +kernel, by decide⟩, List.mem_of_getElem? (i := 399) (by decide +kernel), List.mem_of_getElem? (i := 400) (by decide +kernel), _, _, rfl⟩
theorem lk_L_21 : zLkV RL 21 yX10_window cX10_window 3 (some .int) 2 10 := ⟨⟨Or.inl (List.mem_of_getElem? (i := 1378) (by decide +kernel)), List.mem_of_getElem? (i := 90) (by decide +kernel), List.mem_of_getElem? (i := 1381) (by decide +kernel), ⟨by decide, by decide⟩, by decide +kernel, by decide⟩, List.mem_of_getElem? (i := 1379) (by decide +kernel), List.mem_of_getElem? (i := 1380) (by decide +kernel), _, _, rfl⟩
theorem lk_L_22 : zLkV RL 22 yX9_windows cX9_windows 5 (some .int) 3 9 := ⟨⟨Or.inl (List.mem_of_getElem? (i := 415) (by decide +kernel)), List.mem_of_getElem? (i := 80) (by decide +kernel), List.mem_of_getElem? (i := 418) (by decide +kernel), ⟨by decide, by decide⟩, by decide +kernel, by decide⟩, List.mem_of_getElem? (i := 416) (by decide +kernel), List.mem_of_getElem? (i := 417) (by decide +kernel), _, _, rfl⟩
theorem lk_L_26 : zLkV RL 26 yX10_windows cX10_windows 7 (some .int) 3 10 := ⟨⟨Or.inl (List.mem_of_getElem? (i := 1392) (by decide +kernel)), List.mem_of_getElem? (i := 90) (by decide +kernel), List.mem_of_getElem? (i := 1395) (by decide +kernel), ⟨by decide, by decide⟩, by decide +kernel, by decide⟩, List.mem_of_getElem? (i := 1393) (by decide +kernel), List.mem_of_getElem? (i := 1394) (by decide +kernel), _, _, rfl⟩
theorem lk_L_27 : zLkV RL 27 yX9_player cX9_player 4 (some .int) 3 9 := ⟨⟨Or.inl (List.mem_of_getElem? (i := 453) (by decide +kernel)), List.mem_of_getElem? (i := 80) (by decide +kernel), List.mem_of_getElem? (i := 456) (by decide +kernel), ⟨by decide, by decide⟩, by decide +kernel, by decide⟩, List.mem_of_getElem? (i := 454) (by decide +kernel), List.mem_of_getElem? (i := 455) (by decide +kernel), _, _, rfl⟩
theorem lk_L_30 : zLkV RL 30 yX10_player cX10_player 4 (some .int) 3 10 := ⟨⟨Or.inl (List.mem_of_getElem? (i := 1401) (by decide +kernel)), List.mem_of_getElem? (i := 90) (by decide +kernel), List.mem_of_getElem? (i := 1404) (by decide +kernel), ⟨by decide, by decide⟩, by decide +kernel, by decide⟩, List.mem_of_getElem? (i := 1402) (by decide +kernel), List.mem_of_getElem? (i := 1403) (by decide +kernel), _, _, rfl⟩
theorem lk_L_31 : zLkV RL 31 yX9_mend cX9_mend 5 (some .int) 3 9 := ⟨⟨Or.inl (List.mem_of_getElem? (i := 462) (by decide +kernel)), List.mem_of_getElem? (i := 80) (by decide +kernel), List.mem_of_getElem? (i := 465) (by decide +kernel), ⟨by decide, by decide⟩, by decide +kernel, by decide⟩, List.mem_of_getElem? (i := 463) (by decide +kernel), List.mem_of_getElem? (i := 464) (by decide +kernel), _, _, rfl⟩
theorem lk_L_34 : zLkV RL 34 yX10_mend cX10_mend 4 (some .int) 3 10 := ⟨⟨Or.inl (List.mem_of_getElem? (i := 1411) (by decide +kernel)), List.mem_of_getElem? (i := 90) (by decide +kernel), List.mem_of_getElem? (i := 1414) (by decide +kernel), ⟨by decide, by decide⟩, by decide +kernel, by decide⟩, List.mem_of_getElem? (i := 1412) (by decide +kernel), List.mem_of_getElem? (i := 1413) (by decide +kernel), _, _, rfl⟩
theorem lk_L_35 : zLkV RL 35 yX9_pay cX9_pay 4 (some .int) 2 9 := ⟨⟨Or.inl (List.mem_of_getElem? (i := 495) (by decide +kernel)), List.mem_of_getElem? (i := 80) (by decide +kernel), List.mem_of_getElem? (i := 498) (by decide +kernel), ⟨by decide, by decide⟩, by decide +kernel, by decide⟩, List.mem_of_getElem? (i := 496) (by decide +kernel), List.mem_of_getElem? (i := 497) (by decide +kernel), _, _, rfl⟩
theorem lk_L_38 : zLkV RL 38 yX10_pay cX10_pay 4 (some .int) 2 10 := ⟨⟨Or.inl (List.mem_of_getElem? (i := 1424) (by decide +kernel)), List.mem_of_getElem? (i := 90) (by decide +kernel), List.mem_of_getElem? (i := 1427) (by decide +kernel), ⟨by decide, by decide⟩, by decide +kernel, by decide⟩, List.mem_of_getElem? (i := 1425) (by decide +kernel), List.mem_of_getElem? (i := 1426) (by decide +kernel), _, _, rfl⟩
theorem lk_L_39 : zLkV RL 39 yX9_of cX9_of 3 (some .int) 2 9 := ⟨⟨Or.inl (List.mem_of_getElem? (i := 507) (by decide +kernel)), List.mem_of_getElem? (i := 80) (by decide +kernel), List.mem_of_getElem? (i := 510) (by decide +kernel), ⟨by decide, by decide⟩, by decide +kernel, by decide⟩, List.mem_of_getElem? (i := 508) (by decide +kernel), List.mem_of_getElem? (i := 509) (by decide +kernel), _, _, rfl⟩
theorem lk_L_42 : zLkV RL 42 yX10_of cX10_of 3 (some .int) 2 10 := ⟨⟨Or.inl (List.mem_of_getElem? (i := 1429) (by decide +kernel)), List.mem_of_getElem? (i := 90) (by decide +kernel), List.mem_of_getElem? (i := 1432) (by decide +kernel), ⟨by decide, by decide⟩, by decide +kernel, by decide⟩, List.mem_of_getElem? (i := 1430) (by decide +kernel), List.mem_of_getElem? (i := 1431) (by decide +kernel), _, _, rfl⟩
theorem lk_L_43 : zLkV RL 43 yX9_harm cX9_harm 2 (some .int) 1 9 := ⟨⟨Or.inl (List.mem_of_getElem? (i := 539) (by decide +kernel)), List.mem_of_getElem? (i := 80) (by decide +kernel), List.mem_of_getElem? (i := 542) (by decide +kernel), ⟨by decide, by decide⟩, by decide +kernel, by decide⟩, List.mem_of_getElem? (i := 540) (by decide +kernel), List.mem_of_getElem? (i := 541) (by decide +kernel), _, _, rfl⟩
theorem lk_L_47 : zLkV RL 47 yX10_harm cX10_harm 2 (some .int) 1 10 := ⟨⟨Or.inl (List.mem_of_getElem? (i := 1462) (by decide +kernel)), List.mem_of_getElem? (i := 90) (by decide +kernel), List.mem_of_getElem? (i := 1465) (by decide +kernel), ⟨by decide, by decide⟩, by decide +kernel, by decide⟩, List.mem_of_getElem? (i := 1463) (by decide +kernel), List.mem_of_getElem? (i := 1464) (by decide +kernel), _, _, rfl⟩
theorem lk_L_48 : zLkV RL 48 yX9_once cX9_once 5 (some .int) 2 9 := ⟨⟨Or.inl (List.mem_of_getElem? (i := 551) (by decide +kernel)), List.mem_of_getElem? (i := 80) (by decide +kernel), List.mem_of_getElem? (i := 554) (by decide +kernel), ⟨by decide, by decide⟩, by decide +kernel, by decide⟩, List.mem_of_getElem? (i := 552) (by decide +kernel), List.mem_of_getElem? (i := 553) (by decide +kernel), _, _, rfl⟩
theorem lk_L_51 : zLkV RL 51 yX10_once cX10_once 5 (some .int) 2 10 := ⟨⟨Or.inl (List.mem_of_getElem? (i := 1470) (by decide +kernel)), List.mem_of_getElem? (i := 90) (by decide +kernel), List.mem_of_getElem? (i := 1473) (by decide +kernel), ⟨by decide, by decide⟩, by decide +kernel, by decide⟩, List.mem_of_getElem? (i := 1471) (by decide +kernel), List.mem_of_getElem? (i := 1472) (by decide +kernel), _, _, rfl⟩
theorem lk_L_52 : zLkV RL 52 yX9_waiting cX9_waiting 8 (some .int) 4 9 := ⟨⟨Or.inl (List.mem_of_getElem? (i := 589) (by decide +kernel)), List.mem_of_getElem? (i := 80) (by decide +kernel), List.mem_of_getElem? (i := 592) (by decide +kernel), ⟨by decide, by decide⟩, by decide +kernel, by decide⟩, List.mem_of_getElem? (i := 590) (by decide +kernel), List.mem_of_getElem? (i := 591) (by decide +kernel), _, _, rfl⟩
theorem lk_L_56 : zLkV RL 56 yX10_waiting cX10_waiting 14 (some .int) 4 10 := ⟨⟨Or.inl (List.mem_of_getElem? (i := 1494) (by decide +kernel)), List.mem_of_getElem? (i := 90) (by decide +kernel), List.mem_of_getElem? (i := 1497) (by decide +kernel), ⟨by decide, by decide⟩, by decide +kernel, by decide⟩, List.mem_of_getElem? (i := 1495) (by decide +kernel), List.mem_of_getElem? (i := 1496) (by decide +kernel), _, _, rfl⟩
theorem lk_L_57 : zLkV RL 57 yX9_exactly cX9_exactly 4 (some .int) 3 9 := ⟨⟨Or.inl (List.mem_of_getElem? (i := 612) (by decide +kernel)), List.mem_of_getElem? (i := 80) (by decide +kernel), List.mem_of_getElem? (i := 615) (by decide +kernel), ⟨by decide, by decide⟩, by decide +kernel, by decide⟩, List.mem_of_getElem? (i := 613) (by decide +kernel), List.mem_of_getElem? (i := 614) (by decide +kernel), _, _, rfl⟩
theorem lk_L_60 : zLkV RL 60 yX10_exactly cX10_exactly 9 (some .int) 3 10 := ⟨⟨Or.inl (List.mem_of_getElem? (i := 1512) (by decide +kernel)), List.mem_of_getElem? (i := 90) (by decide +kernel), List.mem_of_getElem? (i := 1515) (by decide +kernel), ⟨by decide, by decide⟩, by decide +kernel, by decide⟩, List.mem_of_getElem? (i := 1513) (by decide +kernel), List.mem_of_getElem? (i := 1514) (by decide +kernel), _, _, rfl⟩
theorem lk_L_61 : zLkV RL 61 yX9_feed cX9_feed 3 (some .int) 2 9 := ⟨⟨Or.inl (List.mem_of_getElem? (i := 621) (by decide +kernel)), List.mem_of_getElem? (i := 80) (by decide +kernel), List.mem_of_getElem? (i := 624) (by decide +kernel), ⟨by decide, by decide⟩, by decide +kernel, by decide⟩, List.mem_of_getElem? (i := 622) (by decide +kernel), List.mem_of_getElem? (i := 623) (by decide +kernel), _, _, rfl⟩
theorem lk_L_64 : zLkV RL 64 yX10_feed cX10_feed 4 (some .int) 2 10 := ⟨⟨Or.inl (List.mem_of_getElem? (i := 1517) (by decide +kernel)), List.mem_of_getElem? (i := 90) (by decide +kernel), List.mem_of_getElem? (i := 1520) (by decide +kernel), ⟨by decide, by decide⟩, by decide +kernel, by decide⟩, List.mem_of_getElem? (i := 1518) (by decide +kernel), List.mem_of_getElem? (i := 1519) (by decide +kernel), _, _, rfl⟩
theorem lk_L_65 : zLkV RL 65 yX9_law cX9_law 3 (some .int) 0 9 := ⟨⟨Or.inl (List.mem_of_getElem? (i := 629) (by decide +kernel)), List.mem_of_getElem? (i := 80) (by decide +kernel), List.mem_of_getElem? (i := 632) (by decide +kernel), ⟨by decide, by decide⟩, by decide +kernel, by decide⟩, List.mem_of_getElem? (i := 630) (by decide +kernel), List.mem_of_getElem? (i := 631) (by decide +kernel), _, _, rfl⟩
theorem lk_L_69 : zLkV RL 69 yX10_law cX10_law 4 (some .int) 0 10 := ⟨⟨Or.inl (List.mem_of_getElem? (i := 1522) (by decide +kernel)), List.mem_of_getElem? (i := 90) (by decide +kernel), List.mem_of_getElem? (i := 1525) (by decide +kernel), ⟨by decide, by decide⟩, by decide +kernel, by decide⟩, List.mem_of_getElem? (i := 1523) (by decide +kernel), List.mem_of_getElem? (i := 1524) (by decide +kernel), _, _, rfl⟩
theorem lk_L_70 : zLkV RL 70 yX9_weeks cX9_weeks 3 (some .int) 2 9 := ⟨⟨Or.inl (List.mem_of_getElem? (i := 765) (by decide +kernel)), List.mem_of_getElem? (i := 80) (by decide +kernel), List.mem_of_getElem? (i := 768) (by decide +kernel), ⟨by decide, by decide⟩, by decide +kernel, by decide⟩, List.mem_of_getElem? (i := 766) (by decide +kernel), List.mem_of_getElem? (i := 767) (by decide +kernel), _, _, rfl⟩
theorem lk_L_73 : zLkV RL 73 yX10_weeks cX10_weeks 5 (some .int) 2 10 := ⟨⟨Or.inl (List.mem_of_getElem? (i := 1569) (by decide +kernel)), List.mem_of_getElem? (i := 90) (by decide +kernel), List.mem_of_getElem? (i := 1572) (by decide +kernel), ⟨by decide, by decide⟩, by decide +kernel, by decide⟩, List.mem_of_getElem? (i := 1570) (by decide +kernel), List.mem_of_getElem? (i := 1571) (by decide +kernel), _, _, rfl⟩
theorem lk_L_74 : zLkV RL 74 yX9_week cX9_week 3 (some .int) 2 9 := ⟨⟨Or.inl (List.mem_of_getElem? (i := 898) (by decide +kernel)), List.mem_of_getElem? (i := 80) (by decide +kernel), List.mem_of_getElem? (i := 901) (by decide +kernel), ⟨by decide, by decide⟩, by decide +kernel, by decide⟩, List.mem_of_getElem? (i := 899) (by decide +kernel), List.mem_of_getElem? (i := 900) (by decide +kernel), _, _, rfl⟩
theorem lk_L_77 : zLkV RL 77 yX10_week cX10_week 6 (some .int) 2 10 := ⟨⟨Or.inl (List.mem_of_getElem? (i := 1600) (by decide +kernel)), List.mem_of_getElem? (i := 90) (by decide +kernel), List.mem_of_getElem? (i := 1603) (by decide +kernel), ⟨by decide, by decide⟩, by decide +kernel, by decide⟩, List.mem_of_getElem? (i := 1601) (by decide +kernel), List.mem_of_getElem? (i := 1602) (by decide +kernel), _, _, rfl⟩
theorem lk_L_78 : zLkV RL 78 yX9_best cX9_best 10 (some .int) 3 9 := ⟨⟨Or.inl (List.mem_of_getElem? (i := 933) (by decide +kernel)), List.mem_of_getElem? (i := 80) (by decide +kernel), List.mem_of_getElem? (i := 936) (by decide +kernel), ⟨by decide, by decide⟩, by decide +kernel, by decide⟩, List.mem_of_getElem? (i := 934) (by decide +kernel), List.mem_of_getElem? (i := 935) (by decide +kernel), _, _, rfl⟩
theorem lk_L_81 : zLkV RL 81 yX10_best cX10_best 10 (some .int) 3 10 := ⟨⟨Or.inl (List.mem_of_getElem? (i := 1604) (by decide +kernel)), List.mem_of_getElem? (i := 90) (by decide +kernel), List.mem_of_getElem? (i := 1607) (by decide +kernel), ⟨by decide, by decide⟩, by decide +kernel, by decide⟩, List.mem_of_getElem? (i := 1605) (by decide +kernel), List.mem_of_getElem? (i := 1606) (by decide +kernel), _, _, rfl⟩
theorem lk_L_82 : zLkV RL 82 yX9_called cX9_called 4 (some .int) 2 9 := ⟨⟨Or.inl (List.mem_of_getElem? (i := 949) (by decide +kernel)), List.mem_of_getElem? (i := 80) (by decide +kernel), List.mem_of_getElem? (i := 952) (by decide +kernel), ⟨by decide, by decide⟩, by decide +kernel, by decide⟩, List.mem_of_getElem? (i := 950) (by decide +kernel), List.mem_of_getElem? (i := 951) (by decide +kernel), _, _, rfl⟩
theorem lk_L_85 : zLkV RL 85 yX10_called cX10_called 5 (some .int) 2 10 := ⟨⟨Or.inl (List.mem_of_getElem? (i := 1608) (by decide +kernel)), List.mem_of_getElem? (i := 90) (by decide +kernel), List.mem_of_getElem? (i := 1611) (by decide +kernel), ⟨by decide, by decide⟩, by decide +kernel, by decide⟩, List.mem_of_getElem? (i := 1609) (by decide +kernel), List.mem_of_getElem? (i := 1610) (by decide +kernel), _, _, rfl⟩
theorem lk_L_86 : zLkV RL 86 yX9_off cX9_off 4 (some .int) 2 9 := ⟨⟨Or.inl (List.mem_of_getElem? (i := 957) (by decide +kernel)), List.mem_of_getElem? (i := 80) (by decide +kernel), List.mem_of_getElem? (i := 960) (by decide +kernel), ⟨by decide, by decide⟩, by decide +kernel, by decide⟩, List.mem_of_getElem? (i := 958) (by decide +kernel), List.mem_of_getElem? (i := 959) (by decide +kernel), _, _, rfl⟩
theorem lk_L_89 : zLkV RL 89 yX10_off cX10_off 7 (some .int) 2 10 := ⟨⟨Or.inl (List.mem_of_getElem? (i := 1612) (by decide +kernel)), List.mem_of_getElem? (i := 90) (by decide +kernel), List.mem_of_getElem? (i := 1615) (by decide +kernel), ⟨by decide, by decide⟩, by decide +kernel, by decide⟩, List.mem_of_getElem? (i := 1613) (by decide +kernel), List.mem_of_getElem? (i := 1614) (by decide +kernel), _, _, rfl⟩
theorem lk_L_90 : zLkV RL 90 yX9_fund cX9_fund 4 (some .int) 3 9 := ⟨⟨Or.inl (List.mem_of_getElem? (i := 961) (by decide +kernel)), List.mem_of_getElem? (i := 80) (by decide +kernel), List.mem_of_getElem? (i := 964) (by decide +kernel), ⟨by decide, by decide⟩, by decide +kernel, by decide⟩, List.mem_of_getElem? (i := 962) (by decide +kernel), List.mem_of_getElem? (i := 963) (by decide +kernel), _, _, rfl⟩
theorem lk_L_93 : zLkV RL 93 yX10_fund cX10_fund 13 (some .int) 3 10 := ⟨⟨Or.inl (List.mem_of_getElem? (i := 1616) (by decide +kernel)), List.mem_of_getElem? (i := 90) (by decide +kernel), List.mem_of_getElem? (i := 1619) (by decide +kernel), ⟨by decide, by decide⟩, by decide +kernel, by decide⟩, List.mem_of_getElem? (i := 1617) (by decide +kernel), List.mem_of_getElem? (i := 1618) (by decide +kernel), _, _, rfl⟩
theorem lk_L_94 : zLkV RL 94 yX9_fetch cX9_fetch 6 (some .int) 1 9 := ⟨⟨Or.inl (List.mem_of_getElem? (i := 993) (by decide +kernel)), List.mem_of_getElem? (i := 80) (by decide +kernel), List.mem_of_getElem? (i := 996) (by decide +kernel), ⟨by decide, by decide⟩, by decide +kernel, by decide⟩, List.mem_of_getElem? (i := 994) (by decide +kernel), List.mem_of_getElem? (i := 995) (by decide +kernel), _, _, rfl⟩
theorem lk_L_97 : zLkV RL 97 yX10_fetch cX10_fetch 4 (some .int) 1 10 := ⟨⟨Or.inl (List.mem_of_getElem? (i := 1625) (by decide +kernel)), List.mem_of_getElem? (i := 90) (by decide +kernel), List.mem_of_getElem? (i := 1628) (by decide +kernel), ⟨by decide, by decide⟩, by decide +kernel, by decide⟩, List.mem_of_getElem? (i := 1626) (by decide +kernel), List.mem_of_getElem? (i := 1627) (by decide +kernel), _, _, rfl⟩
theorem lk_L_98 : zLkV RL 98 yX9_worse cX9_worse 6 (some .int) 1 9 := ⟨⟨Or.inl (List.mem_of_getElem? (i := 998) (by decide +kernel)), List.mem_of_getElem? (i := 80) (by decide +kernel), List.mem_of_getElem? (i := 1001) (by decide +kernel), ⟨by decide, by decide⟩, by decide +kernel, by decide⟩, List.mem_of_getElem? (i := 999) (by decide +kernel), List.mem_of_getElem? (i := 1000) (by decide +kernel), _, _, rfl⟩
theorem lk_L_101 : zLkV RL 101 yX10_worse cX10_worse 6 (some .int) 1 10 := ⟨⟨Or.inl (List.mem_of_getElem? (i := 1629) (by decide +kernel)), List.mem_of_getElem? (i := 90) (by decide +kernel), List.mem_of_getElem? (i := 1632) (by decide +kernel), ⟨by decide, by decide⟩, by decide +kernel, by decide⟩, List.mem_of_getElem? (i := 1630) (by decide +kernel), List.mem_of_getElem? (i := 1631) (by decide +kernel), _, _, rfl⟩
theorem lk_L_102 : zLkV RL 102 yX9_lovers cX9_lovers 6 (some .int) 2 9 := ⟨⟨Or.inl (List.mem_of_getElem? (i := 1002) (by decide +kernel)), List.mem_of_getElem? (i := 80) (by decide +kernel), List.mem_of_getElem? (i := 1005) (by decide +kernel), ⟨by decide, by decide⟩, by decide +kernel, by decide⟩, List.mem_of_getElem? (i := 1003) (by decide +kernel), List.mem_of_getElem? (i := 1004) (by decide +kernel), _, _, rfl⟩
theorem lk_L_105 : zLkV RL 105 yX10_lovers cX10_lovers 5 (some .int) 2 10 := ⟨⟨Or.inl (List.mem_of_getElem? (i := 1633) (by decide +kernel)), List.mem_of_getElem? (i := 90) (by decide +kernel), List.mem_of_getElem? (i := 1636) (by decide +kernel), ⟨by decide, by decide⟩, by decide +kernel, by decide⟩, List.mem_of_getElem? (i := 1634) (by decide +kernel), List.mem_of_getElem? (i := 1635) (by decide +kernel), _, _, rfl⟩
theorem lk_L_106 : zLkV RL 106 yX9_judge cX9_judge 1 (some .int) 0 9 := ⟨⟨Or.inl (List.mem_of_getElem? (i := 1006) (by decide +kernel)), List.mem_of_getElem? (i := 80) (by decide +kernel), List.mem_of_getElem? (i := 1009) (by decide +kernel), ⟨by decide, by decide⟩, by decide +kernel, by decide⟩, List.mem_of_getElem? (i := 1007) (by decide +kernel), List.mem_of_getElem? (i := 1008) (by decide +kernel), _, _, rfl⟩
theorem lk_L_109 : zLkV RL 109 yX10_judge cX10_judge 4 (some .int) 0 10 := ⟨⟨Or.inl (List.mem_of_getElem? (i := 1637) (by decide +kernel)), List.mem_of_getElem? (i := 90) (by decide +kernel), List.mem_of_getElem? (i := 1640) (by decide +kernel), ⟨by decide, by decide⟩, by decide +kernel, by decide⟩, List.mem_of_getElem? (i := 1638) (by decide +kernel), List.mem_of_getElem? (i := 1639) (by decide +kernel), _, _, rfl⟩
theorem lk_L_110 : zLkV RL 110 yX9_undo cX9_undo 2 (some .int) 0 9 := ⟨⟨Or.inl (List.mem_of_getElem? (i := 1014) (by decide +kernel)), List.mem_of_getElem? (i := 80) (by decide +kernel), List.mem_of_getElem? (i := 1017) (by decide +kernel), ⟨by decide, by decide⟩, by decide +kernel, by decide⟩, List.mem_of_getElem? (i := 1015) (by decide +kernel), List.mem_of_getElem? (i := 1016) (by decide +kernel), _, _, rfl⟩
theorem lk_L_113 : zLkV RL 113 yX10_undo cX10_undo 1 (some .int) 0 10 := ⟨⟨Or.inl (List.mem_of_getElem? (i := 1359) (by decide +kernel)), List.mem_of_getElem? (i := 90) (by decide +kernel), List.mem_of_getElem? (i := 1362) (by decide +kernel), ⟨by decide, by decide⟩, by decide +kernel, by decide⟩, List.mem_of_getElem? (i := 1360) (by decide +kernel), List.mem_of_getElem? (i := 1361) (by decide +kernel), _, _, rfl⟩
theorem lk_L_114 : zLkV RL 114 yX9_redo cX9_redo 2 (some .int) 0 9 := ⟨⟨Or.inl (List.mem_of_getElem? (i := 1041) (by decide +kernel)), List.mem_of_getElem? (i := 80) (by decide +kernel), List.mem_of_getElem? (i := 1044) (by decide +kernel), ⟨by decide, by decide⟩, by decide +kernel, by decide⟩, List.mem_of_getElem? (i := 1042) (by decide +kernel), List.mem_of_getElem? (i := 1043) (by decide +kernel), _, _, rfl⟩
theorem lk_L_117 : zLkV RL 117 yX10_redo cX10_redo 1 (some .int) 0 10 := ⟨⟨Or.inl (List.mem_of_getElem? (i := 1363) (by decide +kernel)), List.mem_of_getElem? (i := 90) (by decide +kernel), List.mem_of_getElem? (i := 1366) (by decide +kernel), ⟨by decide, by decide⟩, by decide +kernel, by decide⟩, List.mem_of_getElem? (i := 1364) (by decide +kernel), List.mem_of_getElem? (i := 1365) (by decide +kernel), _, _, rfl⟩
theorem lk_L_118 : zLkV RL 118 yX9_body cX9_body 2 (some .int) 1 9 := ⟨⟨Or.inl (List.mem_of_getElem? (i := 1057) (by decide +kernel)), List.mem_of_getElem? (i := 80) (by decide +kernel), List.mem_of_getElem? (i := 1060) (by decide +kernel), ⟨by decide, by decide⟩, by decide +kernel, by decide⟩, List.mem_of_getElem? (i := 1058) (by decide +kernel), List.mem_of_getElem? (i := 1059) (by decide +kernel), _, _, rfl⟩
theorem lk_L_121 : zLkV RL 121 yX10_body cX10_body 2 (some .int) 1 10 := ⟨⟨Or.inl (List.mem_of_getElem? (i := 1641) (by decide +kernel)), List.mem_of_getElem? (i := 90) (by decide +kernel), List.mem_of_getElem? (i := 1644) (by decide +kernel), ⟨by decide, by decide⟩, by decide +kernel, by decide⟩, List.mem_of_getElem? (i := 1642) (by decide +kernel), List.mem_of_getElem? (i := 1643) (by decide +kernel), _, _, rfl⟩
theorem lk_L_122 : zLkV RL 122 yX9_act cX9_act 4 (some .int) 3 9 := ⟨⟨Or.inl (List.mem_of_getElem? (i := 1065) (by decide +kernel)), List.mem_of_getElem? (i := 80) (by decide +kernel), List.mem_of_getElem? (i := 1068) (by decide +kernel), ⟨by decide, by decide⟩, by decide +kernel, by decide⟩, List.mem_of_getElem? (i := 1066) (by decide +kernel), List.mem_of_getElem? (i := 1067) (by decide +kernel), _, _, rfl⟩
theorem lk_L_125 : zLkV RL 125 yX10_act cX10_act 4 (some .int) 3 10 := ⟨⟨Or.inl (List.mem_of_getElem? (i := 1646) (by decide +kernel)), List.mem_of_getElem? (i := 90) (by decide +kernel), List.mem_of_getElem? (i := 1649) (by decide +kernel), ⟨by decide, by decide⟩, by decide +kernel, by decide⟩, List.mem_of_getElem? (i := 1647) (by decide +kernel), List.mem_of_getElem? (i := 1648) (by decide +kernel), _, _, rfl⟩
theorem lk_L_126 : zLkV RL 126 yX9_trace cX9_trace 2 (some .int) 1 9 := ⟨⟨Or.inl (List.mem_of_getElem? (i := 1104) (by decide +kernel)), List.mem_of_getElem? (i := 80) (by decide +kernel), List.mem_of_getElem? (i := 1107) (by decide +kernel), ⟨by decide, by decide⟩, by decide +kernel, by decide⟩, List.mem_of_getElem? (i := 1105) (by decide +kernel), List.mem_of_getElem? (i := 1106) (by decide +kernel), _, _, rfl⟩
theorem lk_L_129 : zLkV RL 129 yX10_trace cX10_trace 2 (some .int) 1 10 := ⟨⟨Or.inl (List.mem_of_getElem? (i := 1674) (by decide +kernel)), List.mem_of_getElem? (i := 90) (by decide +kernel), List.mem_of_getElem? (i := 1677) (by decide +kernel), ⟨by decide, by decide⟩, by decide +kernel, by decide⟩, List.mem_of_getElem? (i := 1675) (by decide +kernel), List.mem_of_getElem? (i := 1676) (by decide +kernel), _, _, rfl⟩
theorem lk_L_130 : zLkV RL 130 yX9_keep cX9_keep 3 (some .int) 2 9 := ⟨⟨Or.inl (List.mem_of_getElem? (i := 1112) (by decide +kernel)), List.mem_of_getElem? (i := 80) (by decide +kernel), List.mem_of_getElem? (i := 1115) (by decide +kernel), ⟨by decide, by decide⟩, by decide +kernel, by decide⟩, List.mem_of_getElem? (i := 1113) (by decide +kernel), List.mem_of_getElem? (i := 1114) (by decide +kernel), _, _, rfl⟩
theorem lk_L_133 : zLkV RL 133 yX10_keep cX10_keep 3 (some .int) 2 10 := ⟨⟨Or.inl (List.mem_of_getElem? (i := 1678) (by decide +kernel)), List.mem_of_getElem? (i := 90) (by decide +kernel), List.mem_of_getElem? (i := 1681) (by decide +kernel), ⟨by decide, by decide⟩, by decide +kernel, by decide⟩, List.mem_of_getElem? (i := 1679) (by decide +kernel), List.mem_of_getElem? (i := 1680) (by decide +kernel), _, _, rfl⟩
theorem lk_L_134 : zLkV RL 134 yX9_row cX9_row 4 (some .int) 3 9 := ⟨⟨Or.inl (List.mem_of_getElem? (i := 1125) (by decide +kernel)), List.mem_of_getElem? (i := 80) (by decide +kernel), List.mem_of_getElem? (i := 1128) (by decide +kernel), ⟨by decide, by decide⟩, by decide +kernel, by decide⟩, List.mem_of_getElem? (i := 1126) (by decide +kernel), List.mem_of_getElem? (i := 1127) (by decide +kernel), _, _, rfl⟩
theorem lk_L_137 : zLkV RL 137 yX10_row cX10_row 5 (some .int) 3 10 := ⟨⟨Or.inl (List.mem_of_getElem? (i := 1682) (by decide +kernel)), List.mem_of_getElem? (i := 90) (by decide +kernel), List.mem_of_getElem? (i := 1685) (by decide +kernel), ⟨by decide, by decide⟩, by decide +kernel, by decide⟩, List.mem_of_getElem? (i := 1683) (by decide +kernel), List.mem_of_getElem? (i := 1684) (by decide +kernel), _, _, rfl⟩
theorem bp_32 : (Int8.ofInt 32).toInt32 = (32 : Int32) := by decide
theorem cw_L_138 : Cond.constantLong RL 138 (4294967295 : Int64) ∈ lw_tbl := List.mem_of_getElem? (i := 1721) (by decide +kernel)
theorem lk_L_140 : zLkV RL 140 yX9_put cX9_put 6 (some .int) 3 9 := ⟨⟨Or.inl (List.mem_of_getElem? (i := 1134) (by decide +kernel)), List.mem_of_getElem? (i := 80) (by decide +kernel), List.mem_of_getElem? (i := 1137) (by decide +kernel), ⟨by decide, by decide⟩, by decide +kernel, by decide⟩, List.mem_of_getElem? (i := 1135) (by decide +kernel), List.mem_of_getElem? (i := 1136) (by decide +kernel), _, _, rfl⟩
theorem lk_L_144 : zLkV RL 144 yX10_put cX10_put 6 (some .int) 3 10 := ⟨⟨Or.inl (List.mem_of_getElem? (i := 1686) (by decide +kernel)), List.mem_of_getElem? (i := 90) (by decide +kernel), List.mem_of_getElem? (i := 1689) (by decide +kernel), ⟨by decide, by decide⟩, by decide +kernel, by decide⟩, List.mem_of_getElem? (i := 1687) (by decide +kernel), List.mem_of_getElem? (i := 1688) (by decide +kernel), _, _, rfl⟩
theorem lk_L_145 : zLkV RL 145 yX9_element cX9_element 3 (some .long) 2 9 := ⟨⟨Or.inl (List.mem_of_getElem? (i := 1150) (by decide +kernel)), List.mem_of_getElem? (i := 80) (by decide +kernel), List.mem_of_getElem? (i := 1153) (by decide +kernel), ⟨by decide, by decide⟩, by decide +kernel, by decide⟩, List.mem_of_getElem? (i := 1151) (by decide +kernel), List.mem_of_getElem? (i := 1152) (by decide +kernel), _, _, rfl⟩
theorem lk_L_149 : zLkV RL 149 yX10_element cX10_element 3 (some .long) 2 10 := ⟨⟨Or.inl (List.mem_of_getElem? (i := 1697) (by decide +kernel)), List.mem_of_getElem? (i := 90) (by decide +kernel), List.mem_of_getElem? (i := 1700) (by decide +kernel), ⟨by decide, by decide⟩, by decide +kernel, by decide⟩, List.mem_of_getElem? (i := 1698) (by decide +kernel), List.mem_of_getElem? (i := 1699) (by decide +kernel), _, _, rfl⟩
theorem lk_L_150 : zLkV RL 150 yX9_shift cX9_shift 6 (some .int) 5 9 := ⟨⟨Or.inl (List.mem_of_getElem? (i := 1155) (by decide +kernel)), List.mem_of_getElem? (i := 80) (by decide +kernel), List.mem_of_getElem? (i := 1158) (by decide +kernel), ⟨by decide, by decide⟩, by decide +kernel, by decide⟩, List.mem_of_getElem? (i := 1156) (by decide +kernel), List.mem_of_getElem? (i := 1157) (by decide +kernel), _, _, rfl⟩
theorem lk_L_154 : zLkV RL 154 yX10_shift cX10_shift 7 (some .int) 5 10 := ⟨⟨Or.inl (List.mem_of_getElem? (i := 1702) (by decide +kernel)), List.mem_of_getElem? (i := 90) (by decide +kernel), List.mem_of_getElem? (i := 1705) (by decide +kernel), ⟨by decide, by decide⟩, by decide +kernel, by decide⟩, List.mem_of_getElem? (i := 1703) (by decide +kernel), List.mem_of_getElem? (i := 1704) (by decide +kernel), _, _, rfl⟩
theorem lk_L_155 : zLkV RL 155 yX9_taken cX9_taken 4 (some .int) 2 9 := ⟨⟨Or.inl (List.mem_of_getElem? (i := 1170) (by decide +kernel)), List.mem_of_getElem? (i := 80) (by decide +kernel), List.mem_of_getElem? (i := 1173) (by decide +kernel), ⟨by decide, by decide⟩, by decide +kernel, by decide⟩, List.mem_of_getElem? (i := 1171) (by decide +kernel), List.mem_of_getElem? (i := 1172) (by decide +kernel), _, _, rfl⟩
theorem lk_L_158 : zLkV RL 158 yX10_taken cX10_taken 4 (some .int) 2 10 := ⟨⟨Or.inl (List.mem_of_getElem? (i := 1706) (by decide +kernel)), List.mem_of_getElem? (i := 90) (by decide +kernel), List.mem_of_getElem? (i := 1709) (by decide +kernel), ⟨by decide, by decide⟩, by decide +kernel, by decide⟩, List.mem_of_getElem? (i := 1707) (by decide +kernel), List.mem_of_getElem? (i := 1708) (by decide +kernel), _, _, rfl⟩
theorem lk_L_159 : zLkV RL 159 yX9_count cX9_count 2 (some .int) 1 9 := ⟨⟨Or.inl (List.mem_of_getElem? (i := 1183) (by decide +kernel)), List.mem_of_getElem? (i := 80) (by decide +kernel), List.mem_of_getElem? (i := 1186) (by decide +kernel), ⟨by decide, by decide⟩, by decide +kernel, by decide⟩, List.mem_of_getElem? (i := 1184) (by decide +kernel), List.mem_of_getElem? (i := 1185) (by decide +kernel), _, _, rfl⟩
theorem lk_L_162 : zLkV RL 162 yX10_count cX10_count 2 (some .int) 1 10 := ⟨⟨Or.inl (List.mem_of_getElem? (i := 1717) (by decide +kernel)), List.mem_of_getElem? (i := 90) (by decide +kernel), List.mem_of_getElem? (i := 1720) (by decide +kernel), ⟨by decide, by decide⟩, by decide +kernel, by decide⟩, List.mem_of_getElem? (i := 1718) (by decide +kernel), List.mem_of_getElem? (i := 1719) (by decide +kernel), _, _, rfl⟩
theorem zne_7 {x : Int32} (h : ¬ x = (7 : Int32)) : x.toInt ≠ 7 := fun e => h (Int32.toInt_inj.mp (e.trans (by decide)))
theorem zne_8 {x : Int32} (h : ¬ x = (8 : Int32)) : x.toInt ≠ 8 := fun e => h (Int32.toInt_inj.mp (e.trans (by decide)))
theorem zne_9 {x : Int32} (h : ¬ x = (9 : Int32)) : x.toInt ≠ 9 := fun e => h (Int32.toInt_inj.mp (e.trans (by decide)))
theorem zne_12 {x : Int32} (h : ¬ x = (12 : Int32)) : x.toInt ≠ 12 := fun e => h (Int32.toInt_inj.mp (e.trans (by decide)))
theorem zne_13 {x : Int32} (h : ¬ x = (13 : Int32)) : x.toInt ≠ 13 := fun e => h (Int32.toInt_inj.mp (e.trans (by decide)))
theorem zne_14 {x : Int32} (h : ¬ x = (14 : Int32)) : x.toInt ≠ 14 := fun e => h (Int32.toInt_inj.mp (e.trans (by decide)))
theorem zne_15 {x : Int32} (h : ¬ x = (15 : Int32)) : x.toInt ≠ 15 := fun e => h (Int32.toInt_inj.mp (e.trans (by decide)))
theorem zne_16 {x : Int32} (h : ¬ x = (16 : Int32)) : x.toInt ≠ 16 := fun e => h (Int32.toInt_inj.mp (e.trans (by decide)))
theorem zne_17 {x : Int32} (h : ¬ x = (17 : Int32)) : x.toInt ≠ 17 := fun e => h (Int32.toInt_inj.mp (e.trans (by decide)))
theorem zne_18 {x : Int32} (h : ¬ x = (18 : Int32)) : x.toInt ≠ 18 := fun e => h (Int32.toInt_inj.mp (e.trans (by decide)))
theorem zne_19 {x : Int32} (h : ¬ x = (19 : Int32)) : x.toInt ≠ 19 := fun e => h (Int32.toInt_inj.mp (e.trans (by decide)))
theorem zne_21 {x : Int32} (h : ¬ x = (21 : Int32)) : x.toInt ≠ 21 := fun e => h (Int32.toInt_inj.mp (e.trans (by decide)))
theorem zne_22 {x : Int32} (h : ¬ x = (22 : Int32)) : x.toInt ≠ 22 := fun e => h (Int32.toInt_inj.mp (e.trans (by decide)))
theorem zne_23 {x : Int32} (h : ¬ x = (23 : Int32)) : x.toInt ≠ 23 := fun e => h (Int32.toInt_inj.mp (e.trans (by decide)))
theorem zne_24 {x : Int32} (h : ¬ x = (24 : Int32)) : x.toInt ≠ 24 := fun e => h (Int32.toInt_inj.mp (e.trans (by decide)))
theorem zne_25 {x : Int32} (h : ¬ x = (25 : Int32)) : x.toInt ≠ 25 := fun e => h (Int32.toInt_inj.mp (e.trans (by decide)))
theorem zne_26 {x : Int32} (h : ¬ x = (26 : Int32)) : x.toInt ≠ 26 := fun e => h (Int32.toInt_inj.mp (e.trans (by decide)))
theorem zne_27 {x : Int32} (h : ¬ x = (27 : Int32)) : x.toInt ≠ 27 := fun e => h (Int32.toInt_inj.mp (e.trans (by decide)))
theorem zne_28 {x : Int32} (h : ¬ x = (28 : Int32)) : x.toInt ≠ 28 := fun e => h (Int32.toInt_inj.mp (e.trans (by decide)))
theorem zne_29 {x : Int32} (h : ¬ x = (29 : Int32)) : x.toInt ≠ 29 := fun e => h (Int32.toInt_inj.mp (e.trans (by decide)))
theorem zne_31 {x : Int32} (h : ¬ x = (31 : Int32)) : x.toInt ≠ 31 := fun e => h (Int32.toInt_inj.mp (e.trans (by decide)))
theorem zne_32 {x : Int32} (h : ¬ x = (32 : Int32)) : x.toInt ≠ 32 := fun e => h (Int32.toInt_inj.mp (e.trans (by decide)))
theorem zne_34 {x : Int32} (h : ¬ x = (34 : Int32)) : x.toInt ≠ 34 := fun e => h (Int32.toInt_inj.mp (e.trans (by decide)))
abbrev mL_law (g : ZG) : ZM := (x, code, 4, ret, room_1, fun _ below args s t => g.1 = s.heap.size → lw_Z below args s t)
theorem zFitL {q : Nat} (h : q < 1000) : zFit q room_1 := by
  unfold zFit
  exact ⟨by show q + 3 ≤ 2048; omega, by show 64 * q + 320 ≤ 84000; omega⟩
section ZLAW
variable {α : Type} {g : ZG} {M : ZM} {fin : α → Option Value × ZW} {o : Option α} {k n pc : Nat} {l : List (Option Value)} {st : List Value} {w : ZW} {σ : ZSt} {q idx nL ci r : Nat} {y : MethodName} {cc : ByteArray} {ret' : Option FieldType}
theorem Zo_sld {i : Int32} {K : Int32 → Option α} (hd : decode M.2.1 pc = .ok (.iaload, 1)) (kk : ∀ v, Zo g M fin (K v) k n (pc + 1) l (.int v :: st) w) : Zo g M fin (zLd (zIn i g.2.2.2.2.1) (g.2.2.2.2.2 i.toNatClampNeg) K) k n pc l (.int i :: .ref 100009 :: st) w := by
  refine Zo_ld fun hi b hb p lc e s m args below meth c H locs ls F S Wd L => ?_
  obtain ⟨hx, hbc, -, -, hown, -, -, hb0, htb, hK, ⟨-, -, -, d1, d2, -⟩⟩ := id F
  exact va_sld hx hbc d1 (Nat.lt_of_lt_of_le d2 hb0) (Nat.not_le.mpr d2) S (zIn_vp hi) hd (kk _ b hb p lc e s m args below meth c H locs ls F S Wd L)
theorem Zo_slen (hd : decode M.2.1 pc = .ok (.arraylength, 1)) (kk : Zo g M fin o k n (pc + 1) l (.int (Int32.ofNat g.2.2.2.2.1) :: st) w) : Zo g M fin o k n pc l (.ref 100009 :: st) w := by
  intro b hb p lc e s m args below meth c H locs ls F S Wd L
  obtain ⟨hx, hbc, -, -, hown, -, -, hb0, htb, hK, ⟨-, -, -, d1, d2, -⟩⟩ := id F
  exact va_slen hx hbc d1 (Nat.lt_of_lt_of_le d2 hb0) (Nat.not_le.mpr d2) S hd (kk b hb p lc e s m args below meth c H locs ls F S Wd L)
theorem Zo_lVI0 {oc : Option Int32} {Kf : Int32 → Option α} (hL : zLkV M.1.cls idx y cc nL ret' 0 ci) (hev : zEvI g q y cc nL ret' (.ref r :: []) σ oc) (hk : zKd r = (0, ci)) (hR : zFit q M.2.2.2.2.1) (hf : k ≤ M.2.2.2.2.1.cells ∧ n ≤ M.2.2.2.2.1.slots) (hs : (st.map fun v => v.category).sum ≤ 8) (hd : decode M.2.1 pc = .ok (.invokevirtual idx, 3)) (kk : ∀ v, Zo g M fin (Kf v) k n (pc + 3) l (.int v :: st) (zw σ)) : Zo g M fin (oc.bind Kf) k n pc l (.ref r :: st) (zw σ) := Zo_callV (K := 0) (S := 0) [] r hL hev hk (zKd_lt hk (by decide)) (zw_le σ) hR hf hs hd (fun b => kk b)
theorem Zo_lVI1 {b0 : Value} {oc : Option Int32} {Kf : Int32 → Option α} (hL : zLkV M.1.cls idx y cc nL ret' 1 ci) (hev : zEvI g q y cc nL ret' (.ref r :: [b0]) σ oc) (hk : zKd r = (0, ci)) (hR : zFit q M.2.2.2.2.1) (hf : k ≤ M.2.2.2.2.1.cells ∧ n ≤ M.2.2.2.2.1.slots) (hs : (st.map fun v => v.category).sum ≤ 8) (hd : decode M.2.1 pc = .ok (.invokevirtual idx, 3)) (kk : ∀ v, Zo g M fin (Kf v) k n (pc + 3) l (.int v :: st) (zw σ)) : Zo g M fin (oc.bind Kf) k n pc l (b0 :: .ref r :: st) (zw σ) := Zo_callV (K := 0) (S := 0) [b0] r hL hev hk (zKd_lt hk (by decide)) (zw_le σ) hR hf hs hd (fun b => kk b)
theorem Zo_lVI2 {b0 b1 : Value} {oc : Option Int32} {Kf : Int32 → Option α} (hL : zLkV M.1.cls idx y cc nL ret' 2 ci) (hev : zEvI g q y cc nL ret' (.ref r :: [b0, b1]) σ oc) (hk : zKd r = (0, ci)) (hR : zFit q M.2.2.2.2.1) (hf : k ≤ M.2.2.2.2.1.cells ∧ n ≤ M.2.2.2.2.1.slots) (hs : (st.map fun v => v.category).sum ≤ 8) (hd : decode M.2.1 pc = .ok (.invokevirtual idx, 3)) (kk : ∀ v, Zo g M fin (Kf v) k n (pc + 3) l (.int v :: st) (zw σ)) : Zo g M fin (oc.bind Kf) k n pc l (b1 :: b0 :: .ref r :: st) (zw σ) := Zo_callV (K := 0) (S := 0) [b0, b1] r hL hev hk (zKd_lt hk (by decide)) (zw_le σ) hR hf hs hd (fun b => kk b)
theorem Zo_lVI3 {b0 b1 b2 : Value} {oc : Option Int32} {Kf : Int32 → Option α} (hL : zLkV M.1.cls idx y cc nL ret' 3 ci) (hev : zEvI g q y cc nL ret' (.ref r :: [b0, b1, b2]) σ oc) (hk : zKd r = (0, ci)) (hR : zFit q M.2.2.2.2.1) (hf : k ≤ M.2.2.2.2.1.cells ∧ n ≤ M.2.2.2.2.1.slots) (hs : (st.map fun v => v.category).sum ≤ 8) (hd : decode M.2.1 pc = .ok (.invokevirtual idx, 3)) (kk : ∀ v, Zo g M fin (Kf v) k n (pc + 3) l (.int v :: st) (zw σ)) : Zo g M fin (oc.bind Kf) k n pc l (b2 :: b1 :: b0 :: .ref r :: st) (zw σ) := Zo_callV (K := 0) (S := 0) [b0, b1, b2] r hL hev hk (zKd_lt hk (by decide)) (zw_le σ) hR hf hs hd (fun b => kk b)
theorem Zo_lVI4 {b0 b1 b2 b3 : Value} {oc : Option Int32} {Kf : Int32 → Option α} (hL : zLkV M.1.cls idx y cc nL ret' 4 ci) (hev : zEvI g q y cc nL ret' (.ref r :: [b0, b1, b2, b3]) σ oc) (hk : zKd r = (0, ci)) (hR : zFit q M.2.2.2.2.1) (hf : k ≤ M.2.2.2.2.1.cells ∧ n ≤ M.2.2.2.2.1.slots) (hs : (st.map fun v => v.category).sum ≤ 8) (hd : decode M.2.1 pc = .ok (.invokevirtual idx, 3)) (kk : ∀ v, Zo g M fin (Kf v) k n (pc + 3) l (.int v :: st) (zw σ)) : Zo g M fin (oc.bind Kf) k n pc l (b3 :: b2 :: b1 :: b0 :: .ref r :: st) (zw σ) := Zo_callV (K := 0) (S := 0) [b0, b1, b2, b3] r hL hev hk (zKd_lt hk (by decide)) (zw_le σ) hR hf hs hd (fun b => kk b)
theorem Zo_lVI5 {b0 b1 b2 b3 b4 : Value} {oc : Option Int32} {Kf : Int32 → Option α} (hL : zLkV M.1.cls idx y cc nL ret' 5 ci) (hev : zEvI g q y cc nL ret' (.ref r :: [b0, b1, b2, b3, b4]) σ oc) (hk : zKd r = (0, ci)) (hR : zFit q M.2.2.2.2.1) (hf : k ≤ M.2.2.2.2.1.cells ∧ n ≤ M.2.2.2.2.1.slots) (hs : (st.map fun v => v.category).sum ≤ 8) (hd : decode M.2.1 pc = .ok (.invokevirtual idx, 3)) (kk : ∀ v, Zo g M fin (Kf v) k n (pc + 3) l (.int v :: st) (zw σ)) : Zo g M fin (oc.bind Kf) k n pc l (b4 :: b3 :: b2 :: b1 :: b0 :: .ref r :: st) (zw σ) := Zo_callV (K := 0) (S := 0) [b0, b1, b2, b3, b4] r hL hev hk (zKd_lt hk (by decide)) (zw_le σ) hR hf hs hd (fun b => kk b)
theorem Zo_lVJ0 {oc : Option Int64} {Kf : Int64 → Option α} (hL : zLkV M.1.cls idx y cc nL ret' 0 ci) (hev : zEvJ g q y cc nL ret' (.ref r :: []) σ oc) (hk : zKd r = (0, ci)) (hR : zFit q M.2.2.2.2.1) (hf : k ≤ M.2.2.2.2.1.cells ∧ n ≤ M.2.2.2.2.1.slots) (hs : (st.map fun v => v.category).sum ≤ 8) (hd : decode M.2.1 pc = .ok (.invokevirtual idx, 3)) (kk : ∀ v, Zo g M fin (Kf v) k n (pc + 3) l (.long v :: st) (zw σ)) : Zo g M fin (oc.bind Kf) k n pc l (.ref r :: st) (zw σ) := Zo_callV (K := 0) (S := 0) [] r hL hev hk (zKd_lt hk (by decide)) (zw_le σ) hR hf hs hd (fun b => kk b)
theorem Zo_lVJ1 {b0 : Value} {oc : Option Int64} {Kf : Int64 → Option α} (hL : zLkV M.1.cls idx y cc nL ret' 1 ci) (hev : zEvJ g q y cc nL ret' (.ref r :: [b0]) σ oc) (hk : zKd r = (0, ci)) (hR : zFit q M.2.2.2.2.1) (hf : k ≤ M.2.2.2.2.1.cells ∧ n ≤ M.2.2.2.2.1.slots) (hs : (st.map fun v => v.category).sum ≤ 8) (hd : decode M.2.1 pc = .ok (.invokevirtual idx, 3)) (kk : ∀ v, Zo g M fin (Kf v) k n (pc + 3) l (.long v :: st) (zw σ)) : Zo g M fin (oc.bind Kf) k n pc l (b0 :: .ref r :: st) (zw σ) := Zo_callV (K := 0) (S := 0) [b0] r hL hev hk (zKd_lt hk (by decide)) (zw_le σ) hR hf hs hd (fun b => kk b)
theorem Zo_lVJ2 {b0 b1 : Value} {oc : Option Int64} {Kf : Int64 → Option α} (hL : zLkV M.1.cls idx y cc nL ret' 2 ci) (hev : zEvJ g q y cc nL ret' (.ref r :: [b0, b1]) σ oc) (hk : zKd r = (0, ci)) (hR : zFit q M.2.2.2.2.1) (hf : k ≤ M.2.2.2.2.1.cells ∧ n ≤ M.2.2.2.2.1.slots) (hs : (st.map fun v => v.category).sum ≤ 8) (hd : decode M.2.1 pc = .ok (.invokevirtual idx, 3)) (kk : ∀ v, Zo g M fin (Kf v) k n (pc + 3) l (.long v :: st) (zw σ)) : Zo g M fin (oc.bind Kf) k n pc l (b1 :: b0 :: .ref r :: st) (zw σ) := Zo_callV (K := 0) (S := 0) [b0, b1] r hL hev hk (zKd_lt hk (by decide)) (zw_le σ) hR hf hs hd (fun b => kk b)
theorem Zo_lVJ3 {b0 b1 b2 : Value} {oc : Option Int64} {Kf : Int64 → Option α} (hL : zLkV M.1.cls idx y cc nL ret' 3 ci) (hev : zEvJ g q y cc nL ret' (.ref r :: [b0, b1, b2]) σ oc) (hk : zKd r = (0, ci)) (hR : zFit q M.2.2.2.2.1) (hf : k ≤ M.2.2.2.2.1.cells ∧ n ≤ M.2.2.2.2.1.slots) (hs : (st.map fun v => v.category).sum ≤ 8) (hd : decode M.2.1 pc = .ok (.invokevirtual idx, 3)) (kk : ∀ v, Zo g M fin (Kf v) k n (pc + 3) l (.long v :: st) (zw σ)) : Zo g M fin (oc.bind Kf) k n pc l (b2 :: b1 :: b0 :: .ref r :: st) (zw σ) := Zo_callV (K := 0) (S := 0) [b0, b1, b2] r hL hev hk (zKd_lt hk (by decide)) (zw_le σ) hR hf hs hd (fun b => kk b)
theorem Zo_lVJ4 {b0 b1 b2 b3 : Value} {oc : Option Int64} {Kf : Int64 → Option α} (hL : zLkV M.1.cls idx y cc nL ret' 4 ci) (hev : zEvJ g q y cc nL ret' (.ref r :: [b0, b1, b2, b3]) σ oc) (hk : zKd r = (0, ci)) (hR : zFit q M.2.2.2.2.1) (hf : k ≤ M.2.2.2.2.1.cells ∧ n ≤ M.2.2.2.2.1.slots) (hs : (st.map fun v => v.category).sum ≤ 8) (hd : decode M.2.1 pc = .ok (.invokevirtual idx, 3)) (kk : ∀ v, Zo g M fin (Kf v) k n (pc + 3) l (.long v :: st) (zw σ)) : Zo g M fin (oc.bind Kf) k n pc l (b3 :: b2 :: b1 :: b0 :: .ref r :: st) (zw σ) := Zo_callV (K := 0) (S := 0) [b0, b1, b2, b3] r hL hev hk (zKd_lt hk (by decide)) (zw_le σ) hR hf hs hd (fun b => kk b)
theorem Zo_lVJ5 {b0 b1 b2 b3 b4 : Value} {oc : Option Int64} {Kf : Int64 → Option α} (hL : zLkV M.1.cls idx y cc nL ret' 5 ci) (hev : zEvJ g q y cc nL ret' (.ref r :: [b0, b1, b2, b3, b4]) σ oc) (hk : zKd r = (0, ci)) (hR : zFit q M.2.2.2.2.1) (hf : k ≤ M.2.2.2.2.1.cells ∧ n ≤ M.2.2.2.2.1.slots) (hs : (st.map fun v => v.category).sum ≤ 8) (hd : decode M.2.1 pc = .ok (.invokevirtual idx, 3)) (kk : ∀ v, Zo g M fin (Kf v) k n (pc + 3) l (.long v :: st) (zw σ)) : Zo g M fin (oc.bind Kf) k n pc l (b4 :: b3 :: b2 :: b1 :: b0 :: .ref r :: st) (zw σ) := Zo_callV (K := 0) (S := 0) [b0, b1, b2, b3, b4] r hL hev hk (zKd_lt hk (by decide)) (zw_le σ) hR hf hs hd (fun b => kk b)
theorem Zo_lVS0 {oc : Option (Int32 × ZSt)} {Kf : (Int32 × ZSt) → Option α} (hL : zLkV M.1.cls idx y cc nL ret' 0 ci) (hev : zEvS g q y cc nL ret' (.ref r :: []) σ oc) (hk : zKd r = (0, ci)) (hR : zFit q M.2.2.2.2.1) (hf : k ≤ M.2.2.2.2.1.cells ∧ n ≤ M.2.2.2.2.1.slots) (hs : (st.map fun v => v.category).sum ≤ 8) (hd : decode M.2.1 pc = .ok (.invokevirtual idx, 3)) (kk : ∀ v, Zo g M fin (Kf v) k n (pc + 3) l (.int v.1 :: st) (zw v.2)) : Zo g M fin (oc.bind Kf) k n pc l (.ref r :: st) (zw σ) := Zo_callV (K := 0) (S := 0) [] r hL hev hk (zKd_lt hk (by decide)) (zw_le σ) hR hf hs hd (fun b => kk b)
theorem Zo_lVS1 {b0 : Value} {oc : Option (Int32 × ZSt)} {Kf : (Int32 × ZSt) → Option α} (hL : zLkV M.1.cls idx y cc nL ret' 1 ci) (hev : zEvS g q y cc nL ret' (.ref r :: [b0]) σ oc) (hk : zKd r = (0, ci)) (hR : zFit q M.2.2.2.2.1) (hf : k ≤ M.2.2.2.2.1.cells ∧ n ≤ M.2.2.2.2.1.slots) (hs : (st.map fun v => v.category).sum ≤ 8) (hd : decode M.2.1 pc = .ok (.invokevirtual idx, 3)) (kk : ∀ v, Zo g M fin (Kf v) k n (pc + 3) l (.int v.1 :: st) (zw v.2)) : Zo g M fin (oc.bind Kf) k n pc l (b0 :: .ref r :: st) (zw σ) := Zo_callV (K := 0) (S := 0) [b0] r hL hev hk (zKd_lt hk (by decide)) (zw_le σ) hR hf hs hd (fun b => kk b)
theorem Zo_lVS2 {b0 b1 : Value} {oc : Option (Int32 × ZSt)} {Kf : (Int32 × ZSt) → Option α} (hL : zLkV M.1.cls idx y cc nL ret' 2 ci) (hev : zEvS g q y cc nL ret' (.ref r :: [b0, b1]) σ oc) (hk : zKd r = (0, ci)) (hR : zFit q M.2.2.2.2.1) (hf : k ≤ M.2.2.2.2.1.cells ∧ n ≤ M.2.2.2.2.1.slots) (hs : (st.map fun v => v.category).sum ≤ 8) (hd : decode M.2.1 pc = .ok (.invokevirtual idx, 3)) (kk : ∀ v, Zo g M fin (Kf v) k n (pc + 3) l (.int v.1 :: st) (zw v.2)) : Zo g M fin (oc.bind Kf) k n pc l (b1 :: b0 :: .ref r :: st) (zw σ) := Zo_callV (K := 0) (S := 0) [b0, b1] r hL hev hk (zKd_lt hk (by decide)) (zw_le σ) hR hf hs hd (fun b => kk b)
theorem Zo_lVS3 {b0 b1 b2 : Value} {oc : Option (Int32 × ZSt)} {Kf : (Int32 × ZSt) → Option α} (hL : zLkV M.1.cls idx y cc nL ret' 3 ci) (hev : zEvS g q y cc nL ret' (.ref r :: [b0, b1, b2]) σ oc) (hk : zKd r = (0, ci)) (hR : zFit q M.2.2.2.2.1) (hf : k ≤ M.2.2.2.2.1.cells ∧ n ≤ M.2.2.2.2.1.slots) (hs : (st.map fun v => v.category).sum ≤ 8) (hd : decode M.2.1 pc = .ok (.invokevirtual idx, 3)) (kk : ∀ v, Zo g M fin (Kf v) k n (pc + 3) l (.int v.1 :: st) (zw v.2)) : Zo g M fin (oc.bind Kf) k n pc l (b2 :: b1 :: b0 :: .ref r :: st) (zw σ) := Zo_callV (K := 0) (S := 0) [b0, b1, b2] r hL hev hk (zKd_lt hk (by decide)) (zw_le σ) hR hf hs hd (fun b => kk b)
theorem Zo_lVS4 {b0 b1 b2 b3 : Value} {oc : Option (Int32 × ZSt)} {Kf : (Int32 × ZSt) → Option α} (hL : zLkV M.1.cls idx y cc nL ret' 4 ci) (hev : zEvS g q y cc nL ret' (.ref r :: [b0, b1, b2, b3]) σ oc) (hk : zKd r = (0, ci)) (hR : zFit q M.2.2.2.2.1) (hf : k ≤ M.2.2.2.2.1.cells ∧ n ≤ M.2.2.2.2.1.slots) (hs : (st.map fun v => v.category).sum ≤ 8) (hd : decode M.2.1 pc = .ok (.invokevirtual idx, 3)) (kk : ∀ v, Zo g M fin (Kf v) k n (pc + 3) l (.int v.1 :: st) (zw v.2)) : Zo g M fin (oc.bind Kf) k n pc l (b3 :: b2 :: b1 :: b0 :: .ref r :: st) (zw σ) := Zo_callV (K := 0) (S := 0) [b0, b1, b2, b3] r hL hev hk (zKd_lt hk (by decide)) (zw_le σ) hR hf hs hd (fun b => kk b)
theorem Zo_lVS5 {b0 b1 b2 b3 b4 : Value} {oc : Option (Int32 × ZSt)} {Kf : (Int32 × ZSt) → Option α} (hL : zLkV M.1.cls idx y cc nL ret' 5 ci) (hev : zEvS g q y cc nL ret' (.ref r :: [b0, b1, b2, b3, b4]) σ oc) (hk : zKd r = (0, ci)) (hR : zFit q M.2.2.2.2.1) (hf : k ≤ M.2.2.2.2.1.cells ∧ n ≤ M.2.2.2.2.1.slots) (hs : (st.map fun v => v.category).sum ≤ 8) (hd : decode M.2.1 pc = .ok (.invokevirtual idx, 3)) (kk : ∀ v, Zo g M fin (Kf v) k n (pc + 3) l (.int v.1 :: st) (zw v.2)) : Zo g M fin (oc.bind Kf) k n pc l (b4 :: b3 :: b2 :: b1 :: b0 :: .ref r :: st) (zw σ) := Zo_callV (K := 0) (S := 0) [b0, b1, b2, b3, b4] r hL hev hk (zKd_lt hk (by decide)) (zw_le σ) hR hf hs hd (fun b => kk b)
theorem Zo_lawret {a : α} (hk : k ≤ 600000) (hn : n ≤ 7302250) (hd : decode code pc = .ok (.ireturn, 1)) : Zo g (mL_law g) fin (some a) k n pc l [.int 1] w := by
  intro b hb p lc e s m args below meth c H locs ls F Sv Wd L
  obtain ⟨hx, hbc, hrt, -, hown, hlk, -, -, -⟩ := id F
  by_cases hg : g.1 = s.heap.size
  · refine va_forget (fun q hq => by rw [← hg]; exact Sv.2.2 q hq) ?_
    refine W.widen hk hn ?_
    intro T hT X
    obtain ⟨fs, hret, hrun, hended, hW, hframe⟩ := X.leave (v := some (.int 1)) (hlocks := hlk) (fun h => by rw [hrt] at h; cases h)
    have hmeth' : T.vm.method? m = some meth := X.method'
    refine ⟨T.setFrames fs, ?_, fun _ => ⟨.returned (some (.int 1)), hrun, hended, rfl, ⟨_, rfl⟩, hW, hframe⟩⟩
    have hbc' : c.code = code := hbc
    have hrt' : meth.sig.returnType = ret := hrt
    show Steps p.tables e below (T.setTop (F0 m pc ls [.int 1])) _
    jvm_step X.here [X.here.top, hx, hbc', hd, hmeth', hrt', ret, narrow_b1]
    (try refine ⟨rfl, ?_⟩); (try refine ⟨rfl, ?_⟩)
    first | (intro acts; rw [hret _ acts rfl rfl rfl]) | rw [hret _ _ rfl rfl rfl]
    exact Steps.refl _
  · intro T hT X
    exact ⟨_, Steps.refl _, fun h => absurd h hg⟩
end ZLAW
def s_L_law_L18 (L : Nat) (xs : Nat → Int32) : Nat → Int32 → ZSt → Option Unit
  | 0, _, _ => none
  | n + 1, l3, σ =>
    if ((Int32.ofNat L) - (6 : Int32)) < l3 then (some ())
      else (zLd (zIn l3 L) (xs l3.toNatClampNeg) fun v1 => (if (v1 &&& (63 : Int32)) = (0 : Int32) then (zLd (zIn (l3 + (1 : Int32)) L) (xs (l3 + (1 : Int32)).toNatClampNeg) fun v2 => (zLd (zIn (l3 + (2 : Int32)) L) (xs (l3 + (2 : Int32)).toNatClampNeg) fun v3 => ((s_X9_street v2 v3 σ).bind fun r4 => (zLd (zIn (l3 + (1 : Int32)) L) (xs (l3 + (1 : Int32)).toNatClampNeg) fun v5 => (zLd (zIn (l3 + (2 : Int32)) L) (xs (l3 + (2 : Int32)).toNatClampNeg) fun v6 => ((s_X10_street v5 v6 r4.2).bind fun r7 => (if r4.1 = r7.1 then (s_L_law_L18 L xs n (l3 + (6 : Int32)) r7.2)
          else (none))))))))
        else (if (v1 &&& (63 : Int32)) = (1 : Int32) then (zLd (zIn (l3 + (1 : Int32)) L) (xs (l3 + (1 : Int32)).toNatClampNeg) fun v8 => (zLd (zIn (l3 + (2 : Int32)) L) (xs (l3 + (2 : Int32)).toNatClampNeg) fun v9 => ((s_X9_window v8 v9 σ).bind fun r10 => (zLd (zIn (l3 + (1 : Int32)) L) (xs (l3 + (1 : Int32)).toNatClampNeg) fun v11 => (zLd (zIn (l3 + (2 : Int32)) L) (xs (l3 + (2 : Int32)).toNatClampNeg) fun v12 => ((s_X10_window v11 v12 r10.2).bind fun r13 => (if r10.1 = r13.1 then (s_L_law_L18 L xs n (l3 + (6 : Int32)) r13.2)
          else (none))))))))
        else (if (v1 &&& (63 : Int32)) = (2 : Int32) then (zLd (zIn (l3 + (1 : Int32)) L) (xs (l3 + (1 : Int32)).toNatClampNeg) fun v14 => (zLd (zIn (l3 + (2 : Int32)) L) (xs (l3 + (2 : Int32)).toNatClampNeg) fun v15 => (zLd (zIn (l3 + (3 : Int32)) L) (xs (l3 + (3 : Int32)).toNatClampNeg) fun v16 => ((s_X9_windows v14 v15 v16 σ).bind fun r17 => (zLd (zIn (l3 + (1 : Int32)) L) (xs (l3 + (1 : Int32)).toNatClampNeg) fun v18 => (zLd (zIn (l3 + (2 : Int32)) L) (xs (l3 + (2 : Int32)).toNatClampNeg) fun v19 => (zLd (zIn (l3 + (3 : Int32)) L) (xs (l3 + (3 : Int32)).toNatClampNeg) fun v20 => ((s_X10_windows v18 v19 v20 r17.2).bind fun r21 => (if r17.1 = r21.1 then (s_L_law_L18 L xs n (l3 + (6 : Int32)) r21.2)
          else (none))))))))))
        else (if (v1 &&& (63 : Int32)) = (3 : Int32) then (zLd (zIn (l3 + (1 : Int32)) L) (xs (l3 + (1 : Int32)).toNatClampNeg) fun v22 => (zLd (zIn (l3 + (2 : Int32)) L) (xs (l3 + (2 : Int32)).toNatClampNeg) fun v23 => (zLd (zIn (l3 + (3 : Int32)) L) (xs (l3 + (3 : Int32)).toNatClampNeg) fun v24 => ((s_X9_player v22 v23 v24 σ).bind fun r25 => (zLd (zIn (l3 + (1 : Int32)) L) (xs (l3 + (1 : Int32)).toNatClampNeg) fun v26 => (zLd (zIn (l3 + (2 : Int32)) L) (xs (l3 + (2 : Int32)).toNatClampNeg) fun v27 => (zLd (zIn (l3 + (3 : Int32)) L) (xs (l3 + (3 : Int32)).toNatClampNeg) fun v28 => ((s_X10_player v26 v27 v28 r25.2).bind fun r29 => (if r25.1 = r29.1 then (s_L_law_L18 L xs n (l3 + (6 : Int32)) r29.2)
          else (none))))))))))
        else (if (v1 &&& (63 : Int32)) = (4 : Int32) then (zLd (zIn (l3 + (1 : Int32)) L) (xs (l3 + (1 : Int32)).toNatClampNeg) fun v30 => (zLd (zIn (l3 + (2 : Int32)) L) (xs (l3 + (2 : Int32)).toNatClampNeg) fun v31 => (zLd (zIn (l3 + (3 : Int32)) L) (xs (l3 + (3 : Int32)).toNatClampNeg) fun v32 => ((s_X9_mend v30 v31 v32 σ).bind fun r33 => (zLd (zIn (l3 + (1 : Int32)) L) (xs (l3 + (1 : Int32)).toNatClampNeg) fun v34 => (zLd (zIn (l3 + (2 : Int32)) L) (xs (l3 + (2 : Int32)).toNatClampNeg) fun v35 => (zLd (zIn (l3 + (3 : Int32)) L) (xs (l3 + (3 : Int32)).toNatClampNeg) fun v36 => ((s_X10_mend v34 v35 v36 r33.2).bind fun r37 => (if r33.1 = r37.1 then (s_L_law_L18 L xs n (l3 + (6 : Int32)) r37.2)
          else (none))))))))))
        else (if (v1 &&& (63 : Int32)) = (5 : Int32) then (zLd (zIn (l3 + (1 : Int32)) L) (xs (l3 + (1 : Int32)).toNatClampNeg) fun v38 => (zLd (zIn (l3 + (2 : Int32)) L) (xs (l3 + (2 : Int32)).toNatClampNeg) fun v39 => ((s_X9_pay v38 v39 σ).bind fun r40 => (zLd (zIn (l3 + (1 : Int32)) L) (xs (l3 + (1 : Int32)).toNatClampNeg) fun v41 => (zLd (zIn (l3 + (2 : Int32)) L) (xs (l3 + (2 : Int32)).toNatClampNeg) fun v42 => ((s_X10_pay v41 v42 r40.2).bind fun r43 => (if r40.1 = r43.1 then (s_L_law_L18 L xs n (l3 + (6 : Int32)) r43.2)
          else (none))))))))
        else (if (v1 &&& (63 : Int32)) = (6 : Int32) then (zLd (zIn (l3 + (1 : Int32)) L) (xs (l3 + (1 : Int32)).toNatClampNeg) fun v44 => (zLd (zIn (l3 + (2 : Int32)) L) (xs (l3 + (2 : Int32)).toNatClampNeg) fun v45 => ((s_X9_of v44 v45 σ).bind fun r46 => (zLd (zIn (l3 + (1 : Int32)) L) (xs (l3 + (1 : Int32)).toNatClampNeg) fun v47 => (zLd (zIn (l3 + (2 : Int32)) L) (xs (l3 + (2 : Int32)).toNatClampNeg) fun v48 => ((s_X10_of v47 v48 σ).bind fun r49 => (if r46 = r49 then (s_L_law_L18 L xs n (l3 + (6 : Int32)) σ)
          else (none))))))))
        else (if (v1 &&& (63 : Int32)) = (7 : Int32) then (zLd (zIn (l3 + (1 : Int32)) L) (xs (l3 + (1 : Int32)).toNatClampNeg) fun v50 => ((s_X9_harm v50 σ).bind fun r51 => (zLd (zIn (l3 + (1 : Int32)) L) (xs (l3 + (1 : Int32)).toNatClampNeg) fun v52 => ((s_X10_harm v52 σ).bind fun r53 => (if r51 = r53 then (s_L_law_L18 L xs n (l3 + (6 : Int32)) σ)
          else (none))))))
        else (if (v1 &&& (63 : Int32)) = (8 : Int32) then (zLd (zIn (l3 + (1 : Int32)) L) (xs (l3 + (1 : Int32)).toNatClampNeg) fun v54 => (zLd (zIn (l3 + (2 : Int32)) L) (xs (l3 + (2 : Int32)).toNatClampNeg) fun v55 => ((s_X9_once v54 v55 σ).bind fun r56 => (zLd (zIn (l3 + (1 : Int32)) L) (xs (l3 + (1 : Int32)).toNatClampNeg) fun v57 => (zLd (zIn (l3 + (2 : Int32)) L) (xs (l3 + (2 : Int32)).toNatClampNeg) fun v58 => ((s_X10_once v57 v58 σ).bind fun r59 => (if r56 = r59 then (s_L_law_L18 L xs n (l3 + (6 : Int32)) σ)
          else (none))))))))
        else (if (v1 &&& (63 : Int32)) = (9 : Int32) then (zLd (zIn (l3 + (1 : Int32)) L) (xs (l3 + (1 : Int32)).toNatClampNeg) fun v60 => (zLd (zIn (l3 + (2 : Int32)) L) (xs (l3 + (2 : Int32)).toNatClampNeg) fun v61 => (zLd (zIn (l3 + (3 : Int32)) L) (xs (l3 + (3 : Int32)).toNatClampNeg) fun v62 => (zLd (zIn (l3 + (4 : Int32)) L) (xs (l3 + (4 : Int32)).toNatClampNeg) fun v63 => ((s_X9_waiting v60 v61 v62 v63 σ).bind fun r64 => (zLd (zIn (l3 + (1 : Int32)) L) (xs (l3 + (1 : Int32)).toNatClampNeg) fun v65 => (zLd (zIn (l3 + (2 : Int32)) L) (xs (l3 + (2 : Int32)).toNatClampNeg) fun v66 => (zLd (zIn (l3 + (3 : Int32)) L) (xs (l3 + (3 : Int32)).toNatClampNeg) fun v67 => (zLd (zIn (l3 + (4 : Int32)) L) (xs (l3 + (4 : Int32)).toNatClampNeg) fun v68 => ((s_X10_waiting v65 v66 v67 v68 σ).bind fun r69 => (if r64 = r69 then (s_L_law_L18 L xs n (l3 + (6 : Int32)) σ)
          else (none))))))))))))
        else (if (v1 &&& (63 : Int32)) = (10 : Int32) then (zLd (zIn (l3 + (1 : Int32)) L) (xs (l3 + (1 : Int32)).toNatClampNeg) fun v70 => (zLd (zIn (l3 + (2 : Int32)) L) (xs (l3 + (2 : Int32)).toNatClampNeg) fun v71 => (zLd (zIn (l3 + (3 : Int32)) L) (xs (l3 + (3 : Int32)).toNatClampNeg) fun v72 => ((s_X9_exactly v70 v71 v72 σ).bind fun r73 => (zLd (zIn (l3 + (1 : Int32)) L) (xs (l3 + (1 : Int32)).toNatClampNeg) fun v74 => (zLd (zIn (l3 + (2 : Int32)) L) (xs (l3 + (2 : Int32)).toNatClampNeg) fun v75 => (zLd (zIn (l3 + (3 : Int32)) L) (xs (l3 + (3 : Int32)).toNatClampNeg) fun v76 => ((s_X10_exactly v74 v75 v76 σ).bind fun r77 => (if r73 = r77 then (s_L_law_L18 L xs n (l3 + (6 : Int32)) σ)
          else (none))))))))))
        else (if (v1 &&& (63 : Int32)) = (11 : Int32) then (zLd (zIn (l3 + (1 : Int32)) L) (xs (l3 + (1 : Int32)).toNatClampNeg) fun v78 => (zLd (zIn (l3 + (2 : Int32)) L) (xs (l3 + (2 : Int32)).toNatClampNeg) fun v79 => ((s_X9_feed v78 v79 σ).bind fun r80 => (zLd (zIn (l3 + (1 : Int32)) L) (xs (l3 + (1 : Int32)).toNatClampNeg) fun v81 => (zLd (zIn (l3 + (2 : Int32)) L) (xs (l3 + (2 : Int32)).toNatClampNeg) fun v82 => ((s_X10_feed v81 v82 r80.2).bind fun r83 => (if r80.1 = r83.1 then (s_L_law_L18 L xs n (l3 + (6 : Int32)) r83.2)
          else (none))))))))
        else (if (v1 &&& (63 : Int32)) = (12 : Int32) then ((s_X9_law σ).bind fun r84 => ((s_X10_law r84.2).bind fun r85 => (if r84.1 = r85.1 then (s_L_law_L18 L xs n (l3 + (6 : Int32)) r85.2)
          else (none))))
        else (if (v1 &&& (63 : Int32)) = (13 : Int32) then (zLd (zIn (l3 + (1 : Int32)) L) (xs (l3 + (1 : Int32)).toNatClampNeg) fun v86 => (zLd (zIn (l3 + (2 : Int32)) L) (xs (l3 + (2 : Int32)).toNatClampNeg) fun v87 => ((s_X9_weeks v86 v87 σ).bind fun r88 => (zLd (zIn (l3 + (1 : Int32)) L) (xs (l3 + (1 : Int32)).toNatClampNeg) fun v89 => (zLd (zIn (l3 + (2 : Int32)) L) (xs (l3 + (2 : Int32)).toNatClampNeg) fun v90 => ((s_X10_weeks v89 v90 r88.2).bind fun r91 => (if r88.1 = r91.1 then (s_L_law_L18 L xs n (l3 + (6 : Int32)) r91.2)
          else (none))))))))
        else (if (v1 &&& (63 : Int32)) = (14 : Int32) then (zLd (zIn (l3 + (1 : Int32)) L) (xs (l3 + (1 : Int32)).toNatClampNeg) fun v92 => (zLd (zIn (l3 + (2 : Int32)) L) (xs (l3 + (2 : Int32)).toNatClampNeg) fun v93 => ((s_X9_week v92 v93 σ).bind fun r94 => (zLd (zIn (l3 + (1 : Int32)) L) (xs (l3 + (1 : Int32)).toNatClampNeg) fun v95 => (zLd (zIn (l3 + (2 : Int32)) L) (xs (l3 + (2 : Int32)).toNatClampNeg) fun v96 => ((s_X10_week v95 v96 σ).bind fun r97 => (if r94 = r97 then (s_L_law_L18 L xs n (l3 + (6 : Int32)) σ)
          else (none))))))))
        else (if (v1 &&& (63 : Int32)) = (15 : Int32) then (zLd (zIn (l3 + (1 : Int32)) L) (xs (l3 + (1 : Int32)).toNatClampNeg) fun v98 => (zLd (zIn (l3 + (2 : Int32)) L) (xs (l3 + (2 : Int32)).toNatClampNeg) fun v99 => (zLd (zIn (l3 + (3 : Int32)) L) (xs (l3 + (3 : Int32)).toNatClampNeg) fun v100 => ((s_X9_best v98 v99 v100 σ).bind fun r101 => (zLd (zIn (l3 + (1 : Int32)) L) (xs (l3 + (1 : Int32)).toNatClampNeg) fun v102 => (zLd (zIn (l3 + (2 : Int32)) L) (xs (l3 + (2 : Int32)).toNatClampNeg) fun v103 => (zLd (zIn (l3 + (3 : Int32)) L) (xs (l3 + (3 : Int32)).toNatClampNeg) fun v104 => ((s_X10_best v102 v103 v104 r101.2).bind fun r105 => (if r101.1 = r105.1 then (s_L_law_L18 L xs n (l3 + (6 : Int32)) r105.2)
          else (none))))))))))
        else (if (v1 &&& (63 : Int32)) = (16 : Int32) then (zLd (zIn (l3 + (1 : Int32)) L) (xs (l3 + (1 : Int32)).toNatClampNeg) fun v106 => (zLd (zIn (l3 + (2 : Int32)) L) (xs (l3 + (2 : Int32)).toNatClampNeg) fun v107 => ((s_X9_called v106 v107 σ).bind fun r108 => (zLd (zIn (l3 + (1 : Int32)) L) (xs (l3 + (1 : Int32)).toNatClampNeg) fun v109 => (zLd (zIn (l3 + (2 : Int32)) L) (xs (l3 + (2 : Int32)).toNatClampNeg) fun v110 => ((s_X10_called v109 v110 r108.2).bind fun r111 => (if r108.1 = r111.1 then (s_L_law_L18 L xs n (l3 + (6 : Int32)) r111.2)
          else (none))))))))
        else (if (v1 &&& (63 : Int32)) = (17 : Int32) then (zLd (zIn (l3 + (1 : Int32)) L) (xs (l3 + (1 : Int32)).toNatClampNeg) fun v112 => (zLd (zIn (l3 + (2 : Int32)) L) (xs (l3 + (2 : Int32)).toNatClampNeg) fun v113 => ((s_X9_off v112 v113 σ).bind fun r114 => (zLd (zIn (l3 + (1 : Int32)) L) (xs (l3 + (1 : Int32)).toNatClampNeg) fun v115 => (zLd (zIn (l3 + (2 : Int32)) L) (xs (l3 + (2 : Int32)).toNatClampNeg) fun v116 => ((s_X10_off v115 v116 r114.2).bind fun r117 => (if r114.1 = r117.1 then (s_L_law_L18 L xs n (l3 + (6 : Int32)) r117.2)
          else (none))))))))
        else (if (v1 &&& (63 : Int32)) = (18 : Int32) then (zLd (zIn (l3 + (1 : Int32)) L) (xs (l3 + (1 : Int32)).toNatClampNeg) fun v118 => (zLd (zIn (l3 + (2 : Int32)) L) (xs (l3 + (2 : Int32)).toNatClampNeg) fun v119 => (zLd (zIn (l3 + (3 : Int32)) L) (xs (l3 + (3 : Int32)).toNatClampNeg) fun v120 => ((s_X9_fund v118 v119 v120 σ).bind fun r121 => (zLd (zIn (l3 + (1 : Int32)) L) (xs (l3 + (1 : Int32)).toNatClampNeg) fun v122 => (zLd (zIn (l3 + (2 : Int32)) L) (xs (l3 + (2 : Int32)).toNatClampNeg) fun v123 => (zLd (zIn (l3 + (3 : Int32)) L) (xs (l3 + (3 : Int32)).toNatClampNeg) fun v124 => ((s_X10_fund v122 v123 v124 r121.2).bind fun r125 => (if r121.1 = r125 then (s_L_law_L18 L xs n (l3 + (6 : Int32)) r121.2)
          else (none))))))))))
        else (if (v1 &&& (63 : Int32)) = (19 : Int32) then (zLd (zIn (l3 + (1 : Int32)) L) (xs (l3 + (1 : Int32)).toNatClampNeg) fun v126 => ((s_X9_fetch v126 σ).bind fun r127 => (zLd (zIn (l3 + (1 : Int32)) L) (xs (l3 + (1 : Int32)).toNatClampNeg) fun v128 => ((s_X10_fetch v128 σ).bind fun r129 => (if r127 = r129 then (s_L_law_L18 L xs n (l3 + (6 : Int32)) σ)
          else (none))))))
        else (if (v1 &&& (63 : Int32)) = (20 : Int32) then (zLd (zIn (l3 + (1 : Int32)) L) (xs (l3 + (1 : Int32)).toNatClampNeg) fun v130 => ((s_X9_worse v130 σ).bind fun r131 => (zLd (zIn (l3 + (1 : Int32)) L) (xs (l3 + (1 : Int32)).toNatClampNeg) fun v132 => ((s_X10_worse v132 σ).bind fun r133 => (if r131 = r133 then (s_L_law_L18 L xs n (l3 + (6 : Int32)) σ)
          else (none))))))
        else (if (v1 &&& (63 : Int32)) = (21 : Int32) then (zLd (zIn (l3 + (1 : Int32)) L) (xs (l3 + (1 : Int32)).toNatClampNeg) fun v134 => (zLd (zIn (l3 + (2 : Int32)) L) (xs (l3 + (2 : Int32)).toNatClampNeg) fun v135 => ((s_X9_lovers v134 v135 σ).bind fun r136 => (zLd (zIn (l3 + (1 : Int32)) L) (xs (l3 + (1 : Int32)).toNatClampNeg) fun v137 => (zLd (zIn (l3 + (2 : Int32)) L) (xs (l3 + (2 : Int32)).toNatClampNeg) fun v138 => ((s_X10_lovers v137 v138 σ).bind fun r139 => (if r136 = r139 then (s_L_law_L18 L xs n (l3 + (6 : Int32)) σ)
          else (none))))))))
        else (if (v1 &&& (63 : Int32)) = (22 : Int32) then ((s_X9_judge σ).bind fun r140 => ((s_X10_judge σ).bind fun r141 => (if r140 = r141 then (s_L_law_L18 L xs n (l3 + (6 : Int32)) σ)
          else (none))))
        else (if (v1 &&& (63 : Int32)) = (23 : Int32) then ((s_X9_undo σ).bind fun r142 => ((s_X10_undo r142.2).bind fun r143 => (if r142.1 = r143.1 then (s_L_law_L18 L xs n (l3 + (6 : Int32)) r143.2)
          else (none))))
        else (if (v1 &&& (63 : Int32)) = (24 : Int32) then ((s_X9_redo σ).bind fun r144 => ((s_X10_redo r144.2).bind fun r145 => (if r144.1 = r145.1 then (s_L_law_L18 L xs n (l3 + (6 : Int32)) r145.2)
          else (none))))
        else (if (v1 &&& (63 : Int32)) = (25 : Int32) then (zLd (zIn (l3 + (1 : Int32)) L) (xs (l3 + (1 : Int32)).toNatClampNeg) fun v146 => ((s_X9_body v146 σ).bind fun r147 => (zLd (zIn (l3 + (1 : Int32)) L) (xs (l3 + (1 : Int32)).toNatClampNeg) fun v148 => ((s_X10_body v148 r147.2).bind fun r149 => (if r147.1 = r149.1 then (s_L_law_L18 L xs n (l3 + (6 : Int32)) r149.2)
          else (none))))))
        else (if (v1 &&& (63 : Int32)) = (26 : Int32) then (zLd (zIn (l3 + (1 : Int32)) L) (xs (l3 + (1 : Int32)).toNatClampNeg) fun v150 => (zLd (zIn (l3 + (2 : Int32)) L) (xs (l3 + (2 : Int32)).toNatClampNeg) fun v151 => (zLd (zIn (l3 + (3 : Int32)) L) (xs (l3 + (3 : Int32)).toNatClampNeg) fun v152 => ((s_X9_act v150 v151 v152 σ).bind fun r153 => (zLd (zIn (l3 + (1 : Int32)) L) (xs (l3 + (1 : Int32)).toNatClampNeg) fun v154 => (zLd (zIn (l3 + (2 : Int32)) L) (xs (l3 + (2 : Int32)).toNatClampNeg) fun v155 => (zLd (zIn (l3 + (3 : Int32)) L) (xs (l3 + (3 : Int32)).toNatClampNeg) fun v156 => ((s_X10_act v154 v155 v156 r153.2).bind fun r157 => (if r153.1 = r157.1 then (s_L_law_L18 L xs n (l3 + (6 : Int32)) r157.2)
          else (none))))))))))
        else (if (v1 &&& (63 : Int32)) = (27 : Int32) then (zLd (zIn (l3 + (1 : Int32)) L) (xs (l3 + (1 : Int32)).toNatClampNeg) fun v158 => ((s_X9_trace v158 σ).bind fun r159 => (zLd (zIn (l3 + (1 : Int32)) L) (xs (l3 + (1 : Int32)).toNatClampNeg) fun v160 => ((s_X10_trace v160 σ).bind fun r161 => (if r159 = r161 then (s_L_law_L18 L xs n (l3 + (6 : Int32)) σ)
          else (none))))))
        else (if (v1 &&& (63 : Int32)) = (28 : Int32) then (zLd (zIn (l3 + (1 : Int32)) L) (xs (l3 + (1 : Int32)).toNatClampNeg) fun v162 => (zLd (zIn (l3 + (2 : Int32)) L) (xs (l3 + (2 : Int32)).toNatClampNeg) fun v163 => ((s_X9_keep v162 v163 σ).bind fun r164 => (zLd (zIn (l3 + (1 : Int32)) L) (xs (l3 + (1 : Int32)).toNatClampNeg) fun v165 => (zLd (zIn (l3 + (2 : Int32)) L) (xs (l3 + (2 : Int32)).toNatClampNeg) fun v166 => ((s_X10_keep v165 v166 r164.2).bind fun r167 => (if r164.1 = r167.1 then (s_L_law_L18 L xs n (l3 + (6 : Int32)) r167.2)
          else (none))))))))
        else (if (v1 &&& (63 : Int32)) = (29 : Int32) then (zLd (zIn (l3 + (1 : Int32)) L) (xs (l3 + (1 : Int32)).toNatClampNeg) fun v168 => (zLd (zIn (l3 + (2 : Int32)) L) (xs (l3 + (2 : Int32)).toNatClampNeg) fun v169 => (zLd (zIn (l3 + (3 : Int32)) L) (xs (l3 + (3 : Int32)).toNatClampNeg) fun v170 => ((s_X9_row v168 v169 v170 σ).bind fun r171 => (zLd (zIn (l3 + (1 : Int32)) L) (xs (l3 + (1 : Int32)).toNatClampNeg) fun v172 => (zLd (zIn (l3 + (2 : Int32)) L) (xs (l3 + (2 : Int32)).toNatClampNeg) fun v173 => (zLd (zIn (l3 + (3 : Int32)) L) (xs (l3 + (3 : Int32)).toNatClampNeg) fun v174 => ((s_X10_row v172 v173 v174 r171.2).bind fun r175 => (if r171.1 = r175.1 then (s_L_law_L18 L xs n (l3 + (6 : Int32)) r175.2)
          else (none))))))))))
        else (if (v1 &&& (63 : Int32)) = (30 : Int32) then (zLd (zIn (l3 + (1 : Int32)) L) (xs (l3 + (1 : Int32)).toNatClampNeg) fun v176 => (zLd (zIn (l3 + (2 : Int32)) L) (xs (l3 + (2 : Int32)).toNatClampNeg) fun v177 => (zLd (zIn (l3 + (3 : Int32)) L) (xs (l3 + (3 : Int32)).toNatClampNeg) fun v178 => (zLd (zIn (l3 + (4 : Int32)) L) (xs (l3 + (4 : Int32)).toNatClampNeg) fun v179 => ((s_X9_put v176 v177 (((v178.toInt64) <<< ((32 : Int32).toInt64 &&& 63)) ||| ((v179.toInt64) &&& (4294967295 : Int64))) σ).bind fun r180 => (zLd (zIn (l3 + (1 : Int32)) L) (xs (l3 + (1 : Int32)).toNatClampNeg) fun v181 => (zLd (zIn (l3 + (2 : Int32)) L) (xs (l3 + (2 : Int32)).toNatClampNeg) fun v182 => (zLd (zIn (l3 + (3 : Int32)) L) (xs (l3 + (3 : Int32)).toNatClampNeg) fun v183 => (zLd (zIn (l3 + (4 : Int32)) L) (xs (l3 + (4 : Int32)).toNatClampNeg) fun v184 => ((s_X10_put v181 v182 (((v183.toInt64) <<< ((32 : Int32).toInt64 &&& 63)) ||| ((v184.toInt64) &&& (4294967295 : Int64))) r180.2).bind fun r185 => (if r180.1 = r185.1 then (s_L_law_L18 L xs n (l3 + (6 : Int32)) r185.2)
          else (none))))))))))))
        else (if (v1 &&& (63 : Int32)) = (31 : Int32) then (zLd (zIn (l3 + (1 : Int32)) L) (xs (l3 + (1 : Int32)).toNatClampNeg) fun v186 => (zLd (zIn (l3 + (2 : Int32)) L) (xs (l3 + (2 : Int32)).toNatClampNeg) fun v187 => ((s_X9_element v186 v187 σ).bind fun r188 => (zLd (zIn (l3 + (1 : Int32)) L) (xs (l3 + (1 : Int32)).toNatClampNeg) fun v189 => (zLd (zIn (l3 + (2 : Int32)) L) (xs (l3 + (2 : Int32)).toNatClampNeg) fun v190 => ((s_X10_element v189 v190 σ).bind fun r191 => (if (lg_cmp r188 r191) = (0 : Int32) then (s_L_law_L18 L xs n (l3 + (6 : Int32)) σ)
          else (none))))))))
        else (if (v1 &&& (63 : Int32)) = (32 : Int32) then (zLd (zIn (l3 + (1 : Int32)) L) (xs (l3 + (1 : Int32)).toNatClampNeg) fun v192 => (zLd (zIn (l3 + (2 : Int32)) L) (xs (l3 + (2 : Int32)).toNatClampNeg) fun v193 => (zLd (zIn (l3 + (3 : Int32)) L) (xs (l3 + (3 : Int32)).toNatClampNeg) fun v194 => (zLd (zIn (l3 + (4 : Int32)) L) (xs (l3 + (4 : Int32)).toNatClampNeg) fun v195 => (zLd (zIn (l3 + (5 : Int32)) L) (xs (l3 + (5 : Int32)).toNatClampNeg) fun v196 => ((s_X9_shift v192 v193 v194 v195 v196 σ).bind fun r197 => (zLd (zIn (l3 + (1 : Int32)) L) (xs (l3 + (1 : Int32)).toNatClampNeg) fun v198 => (zLd (zIn (l3 + (2 : Int32)) L) (xs (l3 + (2 : Int32)).toNatClampNeg) fun v199 => (zLd (zIn (l3 + (3 : Int32)) L) (xs (l3 + (3 : Int32)).toNatClampNeg) fun v200 => (zLd (zIn (l3 + (4 : Int32)) L) (xs (l3 + (4 : Int32)).toNatClampNeg) fun v201 => (zLd (zIn (l3 + (5 : Int32)) L) (xs (l3 + (5 : Int32)).toNatClampNeg) fun v202 => ((s_X10_shift v198 v199 v200 v201 v202 r197.2).bind fun r203 => (if r197.1 = r203.1 then (s_L_law_L18 L xs n (l3 + (6 : Int32)) r203.2)
          else (none))))))))))))))
        else (if (v1 &&& (63 : Int32)) = (33 : Int32) then (zLd (zIn (l3 + (1 : Int32)) L) (xs (l3 + (1 : Int32)).toNatClampNeg) fun v204 => (zLd (zIn (l3 + (2 : Int32)) L) (xs (l3 + (2 : Int32)).toNatClampNeg) fun v205 => ((s_X9_taken v204 v205 σ).bind fun r206 => (zLd (zIn (l3 + (1 : Int32)) L) (xs (l3 + (1 : Int32)).toNatClampNeg) fun v207 => (zLd (zIn (l3 + (2 : Int32)) L) (xs (l3 + (2 : Int32)).toNatClampNeg) fun v208 => ((s_X10_taken v207 v208 σ).bind fun r209 => (if r206 = r209 then (s_L_law_L18 L xs n (l3 + (6 : Int32)) σ)
          else (none))))))))
        else (if (v1 &&& (63 : Int32)) = (34 : Int32) then (zLd (zIn (l3 + (1 : Int32)) L) (xs (l3 + (1 : Int32)).toNatClampNeg) fun v210 => ((s_X9_count v210 σ).bind fun r211 => (zLd (zIn (l3 + (1 : Int32)) L) (xs (l3 + (1 : Int32)).toNatClampNeg) fun v212 => ((s_X10_count v212 σ).bind fun r213 => (if r211 = r213 then (s_L_law_L18 L xs n (l3 + (6 : Int32)) σ)
          else (none))))))
        else (s_L_law_L18 L xs n (l3 + (6 : Int32)) σ)))))))))))))))))))))))))))))))))))))
set_option maxHeartbeats 40000000 in
set_option maxRecDepth 100000 in
theorem z_L_law_L18 (g : ZG) (k0 n0 : Nat) (hk0 : k0 ≤ 600000) (hn0 : n0 ≤ 7302250) (σ0 : ZSt) : ∀ (n : Nat) (l3 : Int32) (σ : ZSt), Zo g (mL_law g) (fun _ : Unit => (none, zw σ0)) (s_L_law_L18 g.2.2.2.2.1 g.2.2.2.2.2 n l3 σ) k0 n0 18 [some (.ref 100009), some (.ref 0), some (.ref 68), some (.int l3)] [] (zw σ) := by
  have hf : k0 ≤ (mL_law g).2.2.2.2.1.cells ∧ n0 ≤ (mL_law g).2.2.2.2.1.slots := ⟨hk0, hn0⟩
  intro n
  induction n with
  | zero => intros; exact Zo_none
  | succ n ih =>
    intro l3 σ
    rw [s_L_law_L18]
    refine Zo_iload3 dL_law_18 ?_
    refine Zo_aload0 dL_law_19 ?_
    refine Zo_slen dL_law_20 ?_
    refine Zo_bipush (6 : Int32) dL_law_21 bp_6 ?_
    refine Zo_isub dL_law_23 ?_
    refine Zo_icmpgt 1380 dL_law_24 (by decide) ?_ ?_
    · refine Zo_iconst (1 : Int32) dL_law_1380 ic_1 ?_
      exact Zo_lawret hk0 hn0 dL_law_1381
    · refine Zo_aload0 dL_law_27 ?_
      refine Zo_iload3 dL_law_28 ?_
      refine Zo_sld dL_law_29 fun v1 => ?_
      refine Zo_bipush (63 : Int32) dL_law_30 bp_63 ?_
      refine Zo_iand dL_law_32 ?_
      refine Zo_ite (fun hc0 => ?_) (fun hc0 => ?_)
      · refine Zo_tswC (off := 155) (0 : Int32) 188 hc0 dL_law_33 (by decide) (by decide) (by decide) (by decide) ?_
        refine Zo_aload1 dL_law_188 ?_
        refine Zo_aload0 dL_law_189 ?_
        refine Zo_iload3 dL_law_190 ?_
        refine Zo_iconst (1 : Int32) dL_law_191 ic_1 ?_
        refine Zo_iadd dL_law_192 ?_
        refine Zo_sld dL_law_193 fun v2 => ?_
        refine Zo_aload0 dL_law_194 ?_
        show Zo g _ _ _ k0 n0 195 _ _ _
        refine Zo_iload3 dL_law_195 ?_
        refine Zo_iconst (2 : Int32) dL_law_196 ic_2 ?_
        refine Zo_iadd dL_law_197 ?_
        refine Zo_sld dL_law_198 fun v3 => ?_
        refine Zo_lVS2 lk_L_13 (e_X9_street g _ _ _) kd_0 (zFitL (by decide)) hf (zle rfl) dL_law_199 fun r4 => ?_
        refine Zo_aload2 dL_law_202 ?_
        refine Zo_aload0 dL_law_203 ?_
        refine Zo_iload3 dL_law_204 ?_
        show Zo g _ _ _ k0 n0 205 _ _ _
        refine Zo_iconst (1 : Int32) dL_law_205 ic_1 ?_
        refine Zo_iadd dL_law_206 ?_
        refine Zo_sld dL_law_207 fun v5 => ?_
        refine Zo_aload0 dL_law_208 ?_
        refine Zo_iload3 dL_law_209 ?_
        refine Zo_iconst (2 : Int32) dL_law_210 ic_2 ?_
        refine Zo_iadd dL_law_211 ?_
        refine Zo_sld dL_law_212 fun v6 => ?_
        show Zo g _ _ _ k0 n0 213 _ _ _
        refine Zo_lVS2 lk_L_17 (e_X10_street g _ _ _) kd_68 (zFitL (by decide)) hf (zle rfl) dL_law_213 fun r7 => ?_
        refine Zo_icmpeq 1374 dL_law_216 (by decide) ?_ ?_
        · refine Zo_iinc3 rfl (6 : Int32) ic_6 (zlt rfl) dL_law_1374 ?_
          refine Zo_goto 18 dL_law_1377 (by decide) ?_
          exact ih _ _
        · exact Zo_none
      refine Zo_ite (fun hc1 => ?_) (fun hc1 => ?_)
      · refine Zo_tswC (off := 188) (1 : Int32) 221 hc1 dL_law_33 (by decide) (by decide) (by decide) (by decide) ?_
        refine Zo_aload1 dL_law_221 ?_
        refine Zo_aload0 dL_law_222 ?_
        refine Zo_iload3 dL_law_223 ?_
        refine Zo_iconst (1 : Int32) dL_law_224 ic_1 ?_
        refine Zo_iadd dL_law_225 ?_
        refine Zo_sld dL_law_226 fun v8 => ?_
        refine Zo_aload0 dL_law_227 ?_
        show Zo g _ _ _ k0 n0 228 _ _ _
        refine Zo_iload3 dL_law_228 ?_
        refine Zo_iconst (2 : Int32) dL_law_229 ic_2 ?_
        refine Zo_iadd dL_law_230 ?_
        refine Zo_sld dL_law_231 fun v9 => ?_
        refine Zo_lVS2 lk_L_18 (e_X9_window g _ _ _) kd_0 (zFitL (by decide)) hf (zle rfl) dL_law_232 fun r10 => ?_
        refine Zo_aload2 dL_law_235 ?_
        refine Zo_aload0 dL_law_236 ?_
        refine Zo_iload3 dL_law_237 ?_
        show Zo g _ _ _ k0 n0 238 _ _ _
        refine Zo_iconst (1 : Int32) dL_law_238 ic_1 ?_
        refine Zo_iadd dL_law_239 ?_
        refine Zo_sld dL_law_240 fun v11 => ?_
        refine Zo_aload0 dL_law_241 ?_
        refine Zo_iload3 dL_law_242 ?_
        refine Zo_iconst (2 : Int32) dL_law_243 ic_2 ?_
        refine Zo_iadd dL_law_244 ?_
        refine Zo_sld dL_law_245 fun v12 => ?_
        show Zo g _ _ _ k0 n0 246 _ _ _
        refine Zo_lVS2 lk_L_21 (e_X10_window g _ _ _) kd_68 (zFitL (by decide)) hf (zle rfl) dL_law_246 fun r13 => ?_
        refine Zo_icmpeq 1374 dL_law_249 (by decide) ?_ ?_
        · refine Zo_iinc3 rfl (6 : Int32) ic_6 (zlt rfl) dL_law_1374 ?_
          refine Zo_goto 18 dL_law_1377 (by decide) ?_
          exact ih _ _
        · exact Zo_none
      refine Zo_ite (fun hc2 => ?_) (fun hc2 => ?_)
      · refine Zo_tswC (off := 221) (2 : Int32) 254 hc2 dL_law_33 (by decide) (by decide) (by decide) (by decide) ?_
        refine Zo_aload1 dL_law_254 ?_
        refine Zo_aload0 dL_law_255 ?_
        refine Zo_iload3 dL_law_256 ?_
        refine Zo_iconst (1 : Int32) dL_law_257 ic_1 ?_
        refine Zo_iadd dL_law_258 ?_
        refine Zo_sld dL_law_259 fun v14 => ?_
        refine Zo_aload0 dL_law_260 ?_
        show Zo g _ _ _ k0 n0 261 _ _ _
        refine Zo_iload3 dL_law_261 ?_
        refine Zo_iconst (2 : Int32) dL_law_262 ic_2 ?_
        refine Zo_iadd dL_law_263 ?_
        refine Zo_sld dL_law_264 fun v15 => ?_
        refine Zo_aload0 dL_law_265 ?_
        refine Zo_iload3 dL_law_266 ?_
        refine Zo_iconst (3 : Int32) dL_law_267 ic_3 ?_
        refine Zo_iadd dL_law_268 ?_
        show Zo g _ _ _ k0 n0 269 _ _ _
        refine Zo_sld dL_law_269 fun v16 => ?_
        refine Zo_lVS3 lk_L_22 (e_X9_windows g _ _ _ _) kd_0 (zFitL (by decide)) hf (zle rfl) dL_law_270 fun r17 => ?_
        refine Zo_aload2 dL_law_273 ?_
        refine Zo_aload0 dL_law_274 ?_
        refine Zo_iload3 dL_law_275 ?_
        refine Zo_iconst (1 : Int32) dL_law_276 ic_1 ?_
        refine Zo_iadd dL_law_277 ?_
        refine Zo_sld dL_law_278 fun v18 => ?_
        show Zo g _ _ _ k0 n0 279 _ _ _
        refine Zo_aload0 dL_law_279 ?_
        refine Zo_iload3 dL_law_280 ?_
        refine Zo_iconst (2 : Int32) dL_law_281 ic_2 ?_
        refine Zo_iadd dL_law_282 ?_
        refine Zo_sld dL_law_283 fun v19 => ?_
        refine Zo_aload0 dL_law_284 ?_
        refine Zo_iload3 dL_law_285 ?_
        refine Zo_iconst (3 : Int32) dL_law_286 ic_3 ?_
        show Zo g _ _ _ k0 n0 287 _ _ _
        refine Zo_iadd dL_law_287 ?_
        refine Zo_sld dL_law_288 fun v20 => ?_
        refine Zo_lVS3 lk_L_26 (e_X10_windows g _ _ _ _) kd_68 (zFitL (by decide)) hf (zle rfl) dL_law_289 fun r21 => ?_
        refine Zo_icmpeq 1374 dL_law_292 (by decide) ?_ ?_
        · refine Zo_iinc3 rfl (6 : Int32) ic_6 (zlt rfl) dL_law_1374 ?_
          refine Zo_goto 18 dL_law_1377 (by decide) ?_
          exact ih _ _
        · exact Zo_none
      refine Zo_ite (fun hc3 => ?_) (fun hc3 => ?_)
      · refine Zo_tswC (off := 264) (3 : Int32) 297 hc3 dL_law_33 (by decide) (by decide) (by decide) (by decide) ?_
        refine Zo_aload1 dL_law_297 ?_
        refine Zo_aload0 dL_law_298 ?_
        refine Zo_iload3 dL_law_299 ?_
        refine Zo_iconst (1 : Int32) dL_law_300 ic_1 ?_
        refine Zo_iadd dL_law_301 ?_
        refine Zo_sld dL_law_302 fun v22 => ?_
        refine Zo_aload0 dL_law_303 ?_
        show Zo g _ _ _ k0 n0 304 _ _ _
        refine Zo_iload3 dL_law_304 ?_
        refine Zo_iconst (2 : Int32) dL_law_305 ic_2 ?_
        refine Zo_iadd dL_law_306 ?_
        refine Zo_sld dL_law_307 fun v23 => ?_
        refine Zo_aload0 dL_law_308 ?_
        refine Zo_iload3 dL_law_309 ?_
        refine Zo_iconst (3 : Int32) dL_law_310 ic_3 ?_
        refine Zo_iadd dL_law_311 ?_
        show Zo g _ _ _ k0 n0 312 _ _ _
        refine Zo_sld dL_law_312 fun v24 => ?_
        refine Zo_lVS3 lk_L_27 (e_X9_player g _ _ _ _) kd_0 (zFitL (by decide)) hf (zle rfl) dL_law_313 fun r25 => ?_
        refine Zo_aload2 dL_law_316 ?_
        refine Zo_aload0 dL_law_317 ?_
        refine Zo_iload3 dL_law_318 ?_
        refine Zo_iconst (1 : Int32) dL_law_319 ic_1 ?_
        refine Zo_iadd dL_law_320 ?_
        refine Zo_sld dL_law_321 fun v26 => ?_
        show Zo g _ _ _ k0 n0 322 _ _ _
        refine Zo_aload0 dL_law_322 ?_
        refine Zo_iload3 dL_law_323 ?_
        refine Zo_iconst (2 : Int32) dL_law_324 ic_2 ?_
        refine Zo_iadd dL_law_325 ?_
        refine Zo_sld dL_law_326 fun v27 => ?_
        refine Zo_aload0 dL_law_327 ?_
        refine Zo_iload3 dL_law_328 ?_
        refine Zo_iconst (3 : Int32) dL_law_329 ic_3 ?_
        show Zo g _ _ _ k0 n0 330 _ _ _
        refine Zo_iadd dL_law_330 ?_
        refine Zo_sld dL_law_331 fun v28 => ?_
        refine Zo_lVS3 lk_L_30 (e_X10_player g _ _ _ _) kd_68 (zFitL (by decide)) hf (zle rfl) dL_law_332 fun r29 => ?_
        refine Zo_icmpeq 1374 dL_law_335 (by decide) ?_ ?_
        · refine Zo_iinc3 rfl (6 : Int32) ic_6 (zlt rfl) dL_law_1374 ?_
          refine Zo_goto 18 dL_law_1377 (by decide) ?_
          exact ih _ _
        · exact Zo_none
      refine Zo_ite (fun hc4 => ?_) (fun hc4 => ?_)
      · refine Zo_tswC (off := 307) (4 : Int32) 340 hc4 dL_law_33 (by decide) (by decide) (by decide) (by decide) ?_
        refine Zo_aload1 dL_law_340 ?_
        refine Zo_aload0 dL_law_341 ?_
        refine Zo_iload3 dL_law_342 ?_
        refine Zo_iconst (1 : Int32) dL_law_343 ic_1 ?_
        refine Zo_iadd dL_law_344 ?_
        refine Zo_sld dL_law_345 fun v30 => ?_
        refine Zo_aload0 dL_law_346 ?_
        show Zo g _ _ _ k0 n0 347 _ _ _
        refine Zo_iload3 dL_law_347 ?_
        refine Zo_iconst (2 : Int32) dL_law_348 ic_2 ?_
        refine Zo_iadd dL_law_349 ?_
        refine Zo_sld dL_law_350 fun v31 => ?_
        refine Zo_aload0 dL_law_351 ?_
        refine Zo_iload3 dL_law_352 ?_
        refine Zo_iconst (3 : Int32) dL_law_353 ic_3 ?_
        refine Zo_iadd dL_law_354 ?_
        show Zo g _ _ _ k0 n0 355 _ _ _
        refine Zo_sld dL_law_355 fun v32 => ?_
        refine Zo_lVS3 lk_L_31 (e_X9_mend g _ _ _ _) kd_0 (zFitL (by decide)) hf (zle rfl) dL_law_356 fun r33 => ?_
        refine Zo_aload2 dL_law_359 ?_
        refine Zo_aload0 dL_law_360 ?_
        refine Zo_iload3 dL_law_361 ?_
        refine Zo_iconst (1 : Int32) dL_law_362 ic_1 ?_
        refine Zo_iadd dL_law_363 ?_
        refine Zo_sld dL_law_364 fun v34 => ?_
        show Zo g _ _ _ k0 n0 365 _ _ _
        refine Zo_aload0 dL_law_365 ?_
        refine Zo_iload3 dL_law_366 ?_
        refine Zo_iconst (2 : Int32) dL_law_367 ic_2 ?_
        refine Zo_iadd dL_law_368 ?_
        refine Zo_sld dL_law_369 fun v35 => ?_
        refine Zo_aload0 dL_law_370 ?_
        refine Zo_iload3 dL_law_371 ?_
        refine Zo_iconst (3 : Int32) dL_law_372 ic_3 ?_
        show Zo g _ _ _ k0 n0 373 _ _ _
        refine Zo_iadd dL_law_373 ?_
        refine Zo_sld dL_law_374 fun v36 => ?_
        refine Zo_lVS3 lk_L_34 (e_X10_mend g _ _ _ _) kd_68 (zFitL (by decide)) hf (zle rfl) dL_law_375 fun r37 => ?_
        refine Zo_icmpeq 1374 dL_law_378 (by decide) ?_ ?_
        · refine Zo_iinc3 rfl (6 : Int32) ic_6 (zlt rfl) dL_law_1374 ?_
          refine Zo_goto 18 dL_law_1377 (by decide) ?_
          exact ih _ _
        · exact Zo_none
      refine Zo_ite (fun hc5 => ?_) (fun hc5 => ?_)
      · refine Zo_tswC (off := 350) (5 : Int32) 383 hc5 dL_law_33 (by decide) (by decide) (by decide) (by decide) ?_
        refine Zo_aload1 dL_law_383 ?_
        refine Zo_aload0 dL_law_384 ?_
        refine Zo_iload3 dL_law_385 ?_
        refine Zo_iconst (1 : Int32) dL_law_386 ic_1 ?_
        refine Zo_iadd dL_law_387 ?_
        refine Zo_sld dL_law_388 fun v38 => ?_
        refine Zo_aload0 dL_law_389 ?_
        show Zo g _ _ _ k0 n0 390 _ _ _
        refine Zo_iload3 dL_law_390 ?_
        refine Zo_iconst (2 : Int32) dL_law_391 ic_2 ?_
        refine Zo_iadd dL_law_392 ?_
        refine Zo_sld dL_law_393 fun v39 => ?_
        refine Zo_lVS2 lk_L_35 (e_X9_pay g _ _ _) kd_0 (zFitL (by decide)) hf (zle rfl) dL_law_394 fun r40 => ?_
        refine Zo_aload2 dL_law_397 ?_
        refine Zo_aload0 dL_law_398 ?_
        refine Zo_iload3 dL_law_399 ?_
        show Zo g _ _ _ k0 n0 400 _ _ _
        refine Zo_iconst (1 : Int32) dL_law_400 ic_1 ?_
        refine Zo_iadd dL_law_401 ?_
        refine Zo_sld dL_law_402 fun v41 => ?_
        refine Zo_aload0 dL_law_403 ?_
        refine Zo_iload3 dL_law_404 ?_
        refine Zo_iconst (2 : Int32) dL_law_405 ic_2 ?_
        refine Zo_iadd dL_law_406 ?_
        refine Zo_sld dL_law_407 fun v42 => ?_
        show Zo g _ _ _ k0 n0 408 _ _ _
        refine Zo_lVS2 lk_L_38 (e_X10_pay g _ _ _) kd_68 (zFitL (by decide)) hf (zle rfl) dL_law_408 fun r43 => ?_
        refine Zo_icmpeq 1374 dL_law_411 (by decide) ?_ ?_
        · refine Zo_iinc3 rfl (6 : Int32) ic_6 (zlt rfl) dL_law_1374 ?_
          refine Zo_goto 18 dL_law_1377 (by decide) ?_
          exact ih _ _
        · exact Zo_none
      refine Zo_ite (fun hc6 => ?_) (fun hc6 => ?_)
      · refine Zo_tswC (off := 383) (6 : Int32) 416 hc6 dL_law_33 (by decide) (by decide) (by decide) (by decide) ?_
        refine Zo_aload1 dL_law_416 ?_
        refine Zo_aload0 dL_law_417 ?_
        refine Zo_iload3 dL_law_418 ?_
        refine Zo_iconst (1 : Int32) dL_law_419 ic_1 ?_
        refine Zo_iadd dL_law_420 ?_
        refine Zo_sld dL_law_421 fun v44 => ?_
        refine Zo_aload0 dL_law_422 ?_
        show Zo g _ _ _ k0 n0 423 _ _ _
        refine Zo_iload3 dL_law_423 ?_
        refine Zo_iconst (2 : Int32) dL_law_424 ic_2 ?_
        refine Zo_iadd dL_law_425 ?_
        refine Zo_sld dL_law_426 fun v45 => ?_
        refine Zo_lVI2 lk_L_39 (e_X9_of g _ _ _) kd_0 (zFitL (by decide)) hf (zle rfl) dL_law_427 fun r46 => ?_
        refine Zo_aload2 dL_law_430 ?_
        refine Zo_aload0 dL_law_431 ?_
        refine Zo_iload3 dL_law_432 ?_
        show Zo g _ _ _ k0 n0 433 _ _ _
        refine Zo_iconst (1 : Int32) dL_law_433 ic_1 ?_
        refine Zo_iadd dL_law_434 ?_
        refine Zo_sld dL_law_435 fun v47 => ?_
        refine Zo_aload0 dL_law_436 ?_
        refine Zo_iload3 dL_law_437 ?_
        refine Zo_iconst (2 : Int32) dL_law_438 ic_2 ?_
        refine Zo_iadd dL_law_439 ?_
        refine Zo_sld dL_law_440 fun v48 => ?_
        show Zo g _ _ _ k0 n0 441 _ _ _
        refine Zo_lVI2 lk_L_42 (e_X10_of g _ _ _) kd_68 (zFitL (by decide)) hf (zle rfl) dL_law_441 fun r49 => ?_
        refine Zo_icmpeq 1374 dL_law_444 (by decide) ?_ ?_
        · refine Zo_iinc3 rfl (6 : Int32) ic_6 (zlt rfl) dL_law_1374 ?_
          refine Zo_goto 18 dL_law_1377 (by decide) ?_
          exact ih _ _
        · exact Zo_none
      refine Zo_ite (fun hc7 => ?_) (fun hc7 => ?_)
      · refine Zo_tswC (off := 416) (7 : Int32) 449 hc7 dL_law_33 (by decide) (by decide) (by decide) (by decide) ?_
        refine Zo_aload1 dL_law_449 ?_
        refine Zo_aload0 dL_law_450 ?_
        refine Zo_iload3 dL_law_451 ?_
        refine Zo_iconst (1 : Int32) dL_law_452 ic_1 ?_
        refine Zo_iadd dL_law_453 ?_
        refine Zo_sld dL_law_454 fun v50 => ?_
        refine Zo_lVI1 lk_L_43 (e_X9_harm g _ _) kd_0 (zFitL (by decide)) hf (zle rfl) dL_law_455 fun r51 => ?_
        show Zo g _ _ _ k0 n0 458 _ _ _
        refine Zo_aload2 dL_law_458 ?_
        refine Zo_aload0 dL_law_459 ?_
        refine Zo_iload3 dL_law_460 ?_
        refine Zo_iconst (1 : Int32) dL_law_461 ic_1 ?_
        refine Zo_iadd dL_law_462 ?_
        refine Zo_sld dL_law_463 fun v52 => ?_
        refine Zo_lVI1 lk_L_47 (e_X10_harm g _ _) kd_68 (zFitL (by decide)) hf (zle rfl) dL_law_464 fun r53 => ?_
        refine Zo_icmpeq 1374 dL_law_467 (by decide) ?_ ?_
        · refine Zo_iinc3 rfl (6 : Int32) ic_6 (zlt rfl) dL_law_1374 ?_
          refine Zo_goto 18 dL_law_1377 (by decide) ?_
          exact ih _ _
        · exact Zo_none
      refine Zo_ite (fun hc8 => ?_) (fun hc8 => ?_)
      · refine Zo_tswC (off := 439) (8 : Int32) 472 hc8 dL_law_33 (by decide) (by decide) (by decide) (by decide) ?_
        refine Zo_aload1 dL_law_472 ?_
        refine Zo_aload0 dL_law_473 ?_
        refine Zo_iload3 dL_law_474 ?_
        refine Zo_iconst (1 : Int32) dL_law_475 ic_1 ?_
        refine Zo_iadd dL_law_476 ?_
        refine Zo_sld dL_law_477 fun v54 => ?_
        refine Zo_aload0 dL_law_478 ?_
        show Zo g _ _ _ k0 n0 479 _ _ _
        refine Zo_iload3 dL_law_479 ?_
        refine Zo_iconst (2 : Int32) dL_law_480 ic_2 ?_
        refine Zo_iadd dL_law_481 ?_
        refine Zo_sld dL_law_482 fun v55 => ?_
        refine Zo_lVI2 lk_L_48 (e_X9_once g _ _ _) kd_0 (zFitL (by decide)) hf (zle rfl) dL_law_483 fun r56 => ?_
        refine Zo_aload2 dL_law_486 ?_
        refine Zo_aload0 dL_law_487 ?_
        refine Zo_iload3 dL_law_488 ?_
        show Zo g _ _ _ k0 n0 489 _ _ _
        refine Zo_iconst (1 : Int32) dL_law_489 ic_1 ?_
        refine Zo_iadd dL_law_490 ?_
        refine Zo_sld dL_law_491 fun v57 => ?_
        refine Zo_aload0 dL_law_492 ?_
        refine Zo_iload3 dL_law_493 ?_
        refine Zo_iconst (2 : Int32) dL_law_494 ic_2 ?_
        refine Zo_iadd dL_law_495 ?_
        refine Zo_sld dL_law_496 fun v58 => ?_
        show Zo g _ _ _ k0 n0 497 _ _ _
        refine Zo_lVI2 lk_L_51 (e_X10_once g _ _ _) kd_68 (zFitL (by decide)) hf (zle rfl) dL_law_497 fun r59 => ?_
        refine Zo_icmpeq 1374 dL_law_500 (by decide) ?_ ?_
        · refine Zo_iinc3 rfl (6 : Int32) ic_6 (zlt rfl) dL_law_1374 ?_
          refine Zo_goto 18 dL_law_1377 (by decide) ?_
          exact ih _ _
        · exact Zo_none
      refine Zo_ite (fun hc9 => ?_) (fun hc9 => ?_)
      · refine Zo_tswC (off := 472) (9 : Int32) 505 hc9 dL_law_33 (by decide) (by decide) (by decide) (by decide) ?_
        refine Zo_aload1 dL_law_505 ?_
        refine Zo_aload0 dL_law_506 ?_
        refine Zo_iload3 dL_law_507 ?_
        refine Zo_iconst (1 : Int32) dL_law_508 ic_1 ?_
        refine Zo_iadd dL_law_509 ?_
        refine Zo_sld dL_law_510 fun v60 => ?_
        refine Zo_aload0 dL_law_511 ?_
        show Zo g _ _ _ k0 n0 512 _ _ _
        refine Zo_iload3 dL_law_512 ?_
        refine Zo_iconst (2 : Int32) dL_law_513 ic_2 ?_
        refine Zo_iadd dL_law_514 ?_
        refine Zo_sld dL_law_515 fun v61 => ?_
        refine Zo_aload0 dL_law_516 ?_
        refine Zo_iload3 dL_law_517 ?_
        refine Zo_iconst (3 : Int32) dL_law_518 ic_3 ?_
        refine Zo_iadd dL_law_519 ?_
        show Zo g _ _ _ k0 n0 520 _ _ _
        refine Zo_sld dL_law_520 fun v62 => ?_
        refine Zo_aload0 dL_law_521 ?_
        refine Zo_iload3 dL_law_522 ?_
        refine Zo_iconst (4 : Int32) dL_law_523 ic_4 ?_
        refine Zo_iadd dL_law_524 ?_
        refine Zo_sld dL_law_525 fun v63 => ?_
        refine Zo_lVI4 lk_L_52 (e_X9_waiting g _ _ _ _ _) kd_0 (zFitL (by decide)) hf (zle rfl) dL_law_526 fun r64 => ?_
        refine Zo_aload2 dL_law_529 ?_
        show Zo g _ _ _ k0 n0 530 _ _ _
        refine Zo_aload0 dL_law_530 ?_
        refine Zo_iload3 dL_law_531 ?_
        refine Zo_iconst (1 : Int32) dL_law_532 ic_1 ?_
        refine Zo_iadd dL_law_533 ?_
        refine Zo_sld dL_law_534 fun v65 => ?_
        refine Zo_aload0 dL_law_535 ?_
        refine Zo_iload3 dL_law_536 ?_
        refine Zo_iconst (2 : Int32) dL_law_537 ic_2 ?_
        show Zo g _ _ _ k0 n0 538 _ _ _
        refine Zo_iadd dL_law_538 ?_
        refine Zo_sld dL_law_539 fun v66 => ?_
        refine Zo_aload0 dL_law_540 ?_
        refine Zo_iload3 dL_law_541 ?_
        refine Zo_iconst (3 : Int32) dL_law_542 ic_3 ?_
        refine Zo_iadd dL_law_543 ?_
        refine Zo_sld dL_law_544 fun v67 => ?_
        refine Zo_aload0 dL_law_545 ?_
        show Zo g _ _ _ k0 n0 546 _ _ _
        refine Zo_iload3 dL_law_546 ?_
        refine Zo_iconst (4 : Int32) dL_law_547 ic_4 ?_
        refine Zo_iadd dL_law_548 ?_
        refine Zo_sld dL_law_549 fun v68 => ?_
        refine Zo_lVI4 lk_L_56 (e_X10_waiting g _ _ _ _ _) kd_68 (zFitL (by decide)) hf (zle rfl) dL_law_550 fun r69 => ?_
        refine Zo_icmpeq 1374 dL_law_553 (by decide) ?_ ?_
        · refine Zo_iinc3 rfl (6 : Int32) ic_6 (zlt rfl) dL_law_1374 ?_
          refine Zo_goto 18 dL_law_1377 (by decide) ?_
          exact ih _ _
        · exact Zo_none
      refine Zo_ite (fun hc10 => ?_) (fun hc10 => ?_)
      · refine Zo_tswC (off := 525) (10 : Int32) 558 hc10 dL_law_33 (by decide) (by decide) (by decide) (by decide) ?_
        refine Zo_aload1 dL_law_558 ?_
        refine Zo_aload0 dL_law_559 ?_
        refine Zo_iload3 dL_law_560 ?_
        refine Zo_iconst (1 : Int32) dL_law_561 ic_1 ?_
        refine Zo_iadd dL_law_562 ?_
        refine Zo_sld dL_law_563 fun v70 => ?_
        refine Zo_aload0 dL_law_564 ?_
        show Zo g _ _ _ k0 n0 565 _ _ _
        refine Zo_iload3 dL_law_565 ?_
        refine Zo_iconst (2 : Int32) dL_law_566 ic_2 ?_
        refine Zo_iadd dL_law_567 ?_
        refine Zo_sld dL_law_568 fun v71 => ?_
        refine Zo_aload0 dL_law_569 ?_
        refine Zo_iload3 dL_law_570 ?_
        refine Zo_iconst (3 : Int32) dL_law_571 ic_3 ?_
        refine Zo_iadd dL_law_572 ?_
        show Zo g _ _ _ k0 n0 573 _ _ _
        refine Zo_sld dL_law_573 fun v72 => ?_
        refine Zo_lVI3 lk_L_57 (e_X9_exactly g _ _ _ _) kd_0 (zFitL (by decide)) hf (zle rfl) dL_law_574 fun r73 => ?_
        refine Zo_aload2 dL_law_577 ?_
        refine Zo_aload0 dL_law_578 ?_
        refine Zo_iload3 dL_law_579 ?_
        refine Zo_iconst (1 : Int32) dL_law_580 ic_1 ?_
        refine Zo_iadd dL_law_581 ?_
        refine Zo_sld dL_law_582 fun v74 => ?_
        show Zo g _ _ _ k0 n0 583 _ _ _
        refine Zo_aload0 dL_law_583 ?_
        refine Zo_iload3 dL_law_584 ?_
        refine Zo_iconst (2 : Int32) dL_law_585 ic_2 ?_
        refine Zo_iadd dL_law_586 ?_
        refine Zo_sld dL_law_587 fun v75 => ?_
        refine Zo_aload0 dL_law_588 ?_
        refine Zo_iload3 dL_law_589 ?_
        refine Zo_iconst (3 : Int32) dL_law_590 ic_3 ?_
        show Zo g _ _ _ k0 n0 591 _ _ _
        refine Zo_iadd dL_law_591 ?_
        refine Zo_sld dL_law_592 fun v76 => ?_
        refine Zo_lVI3 lk_L_60 (e_X10_exactly g _ _ _ _) kd_68 (zFitL (by decide)) hf (zle rfl) dL_law_593 fun r77 => ?_
        refine Zo_icmpeq 1374 dL_law_596 (by decide) ?_ ?_
        · refine Zo_iinc3 rfl (6 : Int32) ic_6 (zlt rfl) dL_law_1374 ?_
          refine Zo_goto 18 dL_law_1377 (by decide) ?_
          exact ih _ _
        · exact Zo_none
      refine Zo_ite (fun hc11 => ?_) (fun hc11 => ?_)
      · refine Zo_tswC (off := 568) (11 : Int32) 601 hc11 dL_law_33 (by decide) (by decide) (by decide) (by decide) ?_
        refine Zo_aload1 dL_law_601 ?_
        refine Zo_aload0 dL_law_602 ?_
        refine Zo_iload3 dL_law_603 ?_
        refine Zo_iconst (1 : Int32) dL_law_604 ic_1 ?_
        refine Zo_iadd dL_law_605 ?_
        refine Zo_sld dL_law_606 fun v78 => ?_
        refine Zo_aload0 dL_law_607 ?_
        show Zo g _ _ _ k0 n0 608 _ _ _
        refine Zo_iload3 dL_law_608 ?_
        refine Zo_iconst (2 : Int32) dL_law_609 ic_2 ?_
        refine Zo_iadd dL_law_610 ?_
        refine Zo_sld dL_law_611 fun v79 => ?_
        refine Zo_lVS2 lk_L_61 (e_X9_feed g _ _ _) kd_0 (zFitL (by decide)) hf (zle rfl) dL_law_612 fun r80 => ?_
        refine Zo_aload2 dL_law_615 ?_
        refine Zo_aload0 dL_law_616 ?_
        refine Zo_iload3 dL_law_617 ?_
        show Zo g _ _ _ k0 n0 618 _ _ _
        refine Zo_iconst (1 : Int32) dL_law_618 ic_1 ?_
        refine Zo_iadd dL_law_619 ?_
        refine Zo_sld dL_law_620 fun v81 => ?_
        refine Zo_aload0 dL_law_621 ?_
        refine Zo_iload3 dL_law_622 ?_
        refine Zo_iconst (2 : Int32) dL_law_623 ic_2 ?_
        refine Zo_iadd dL_law_624 ?_
        refine Zo_sld dL_law_625 fun v82 => ?_
        show Zo g _ _ _ k0 n0 626 _ _ _
        refine Zo_lVS2 lk_L_64 (e_X10_feed g _ _ _) kd_68 (zFitL (by decide)) hf (zle rfl) dL_law_626 fun r83 => ?_
        refine Zo_icmpeq 1374 dL_law_629 (by decide) ?_ ?_
        · refine Zo_iinc3 rfl (6 : Int32) ic_6 (zlt rfl) dL_law_1374 ?_
          refine Zo_goto 18 dL_law_1377 (by decide) ?_
          exact ih _ _
        · exact Zo_none
      refine Zo_ite (fun hc12 => ?_) (fun hc12 => ?_)
      · refine Zo_tswC (off := 601) (12 : Int32) 634 hc12 dL_law_33 (by decide) (by decide) (by decide) (by decide) ?_
        refine Zo_aload1 dL_law_634 ?_
        refine Zo_lVS0 lk_L_65 (e_X9_law g _) kd_0 (zFitL (by decide)) hf (zle rfl) dL_law_635 fun r84 => ?_
        refine Zo_aload2 dL_law_638 ?_
        refine Zo_lVS0 lk_L_69 (e_X10_law g _) kd_68 (zFitL (by decide)) hf (zle rfl) dL_law_639 fun r85 => ?_
        refine Zo_icmpeq 1374 dL_law_642 (by decide) ?_ ?_
        · refine Zo_iinc3 rfl (6 : Int32) ic_6 (zlt rfl) dL_law_1374 ?_
          refine Zo_goto 18 dL_law_1377 (by decide) ?_
          exact ih _ _
        · exact Zo_none
      refine Zo_ite (fun hc13 => ?_) (fun hc13 => ?_)
      · refine Zo_tswC (off := 614) (13 : Int32) 647 hc13 dL_law_33 (by decide) (by decide) (by decide) (by decide) ?_
        refine Zo_aload1 dL_law_647 ?_
        refine Zo_aload0 dL_law_648 ?_
        refine Zo_iload3 dL_law_649 ?_
        refine Zo_iconst (1 : Int32) dL_law_650 ic_1 ?_
        refine Zo_iadd dL_law_651 ?_
        refine Zo_sld dL_law_652 fun v86 => ?_
        refine Zo_aload0 dL_law_653 ?_
        show Zo g _ _ _ k0 n0 654 _ _ _
        refine Zo_iload3 dL_law_654 ?_
        refine Zo_iconst (2 : Int32) dL_law_655 ic_2 ?_
        refine Zo_iadd dL_law_656 ?_
        refine Zo_sld dL_law_657 fun v87 => ?_
        refine Zo_lVS2 lk_L_70 (e_X9_weeks g _ _ _) kd_0 (zFitL (by decide)) hf (zle rfl) dL_law_658 fun r88 => ?_
        refine Zo_aload2 dL_law_661 ?_
        refine Zo_aload0 dL_law_662 ?_
        refine Zo_iload3 dL_law_663 ?_
        show Zo g _ _ _ k0 n0 664 _ _ _
        refine Zo_iconst (1 : Int32) dL_law_664 ic_1 ?_
        refine Zo_iadd dL_law_665 ?_
        refine Zo_sld dL_law_666 fun v89 => ?_
        refine Zo_aload0 dL_law_667 ?_
        refine Zo_iload3 dL_law_668 ?_
        refine Zo_iconst (2 : Int32) dL_law_669 ic_2 ?_
        refine Zo_iadd dL_law_670 ?_
        refine Zo_sld dL_law_671 fun v90 => ?_
        show Zo g _ _ _ k0 n0 672 _ _ _
        refine Zo_lVS2 lk_L_73 (e_X10_weeks g _ _ _) kd_68 (zFitL (by decide)) hf (zle rfl) dL_law_672 fun r91 => ?_
        refine Zo_icmpeq 1374 dL_law_675 (by decide) ?_ ?_
        · refine Zo_iinc3 rfl (6 : Int32) ic_6 (zlt rfl) dL_law_1374 ?_
          refine Zo_goto 18 dL_law_1377 (by decide) ?_
          exact ih _ _
        · exact Zo_none
      refine Zo_ite (fun hc14 => ?_) (fun hc14 => ?_)
      · refine Zo_tswC (off := 647) (14 : Int32) 680 hc14 dL_law_33 (by decide) (by decide) (by decide) (by decide) ?_
        refine Zo_aload1 dL_law_680 ?_
        refine Zo_aload0 dL_law_681 ?_
        refine Zo_iload3 dL_law_682 ?_
        refine Zo_iconst (1 : Int32) dL_law_683 ic_1 ?_
        refine Zo_iadd dL_law_684 ?_
        refine Zo_sld dL_law_685 fun v92 => ?_
        refine Zo_aload0 dL_law_686 ?_
        show Zo g _ _ _ k0 n0 687 _ _ _
        refine Zo_iload3 dL_law_687 ?_
        refine Zo_iconst (2 : Int32) dL_law_688 ic_2 ?_
        refine Zo_iadd dL_law_689 ?_
        refine Zo_sld dL_law_690 fun v93 => ?_
        refine Zo_lVI2 lk_L_74 (e_X9_week g _ _ _) kd_0 (zFitL (by decide)) hf (zle rfl) dL_law_691 fun r94 => ?_
        refine Zo_aload2 dL_law_694 ?_
        refine Zo_aload0 dL_law_695 ?_
        refine Zo_iload3 dL_law_696 ?_
        show Zo g _ _ _ k0 n0 697 _ _ _
        refine Zo_iconst (1 : Int32) dL_law_697 ic_1 ?_
        refine Zo_iadd dL_law_698 ?_
        refine Zo_sld dL_law_699 fun v95 => ?_
        refine Zo_aload0 dL_law_700 ?_
        refine Zo_iload3 dL_law_701 ?_
        refine Zo_iconst (2 : Int32) dL_law_702 ic_2 ?_
        refine Zo_iadd dL_law_703 ?_
        refine Zo_sld dL_law_704 fun v96 => ?_
        show Zo g _ _ _ k0 n0 705 _ _ _
        refine Zo_lVI2 lk_L_77 (e_X10_week g _ _ _) kd_68 (zFitL (by decide)) hf (zle rfl) dL_law_705 fun r97 => ?_
        refine Zo_icmpeq 1374 dL_law_708 (by decide) ?_ ?_
        · refine Zo_iinc3 rfl (6 : Int32) ic_6 (zlt rfl) dL_law_1374 ?_
          refine Zo_goto 18 dL_law_1377 (by decide) ?_
          exact ih _ _
        · exact Zo_none
      refine Zo_ite (fun hc15 => ?_) (fun hc15 => ?_)
      · refine Zo_tswC (off := 680) (15 : Int32) 713 hc15 dL_law_33 (by decide) (by decide) (by decide) (by decide) ?_
        refine Zo_aload1 dL_law_713 ?_
        refine Zo_aload0 dL_law_714 ?_
        refine Zo_iload3 dL_law_715 ?_
        refine Zo_iconst (1 : Int32) dL_law_716 ic_1 ?_
        refine Zo_iadd dL_law_717 ?_
        refine Zo_sld dL_law_718 fun v98 => ?_
        refine Zo_aload0 dL_law_719 ?_
        show Zo g _ _ _ k0 n0 720 _ _ _
        refine Zo_iload3 dL_law_720 ?_
        refine Zo_iconst (2 : Int32) dL_law_721 ic_2 ?_
        refine Zo_iadd dL_law_722 ?_
        refine Zo_sld dL_law_723 fun v99 => ?_
        refine Zo_aload0 dL_law_724 ?_
        refine Zo_iload3 dL_law_725 ?_
        refine Zo_iconst (3 : Int32) dL_law_726 ic_3 ?_
        refine Zo_iadd dL_law_727 ?_
        show Zo g _ _ _ k0 n0 728 _ _ _
        refine Zo_sld dL_law_728 fun v100 => ?_
        refine Zo_lVS3 lk_L_78 (e_X9_best g _ _ _ _) kd_0 (zFitL (by decide)) hf (zle rfl) dL_law_729 fun r101 => ?_
        refine Zo_aload2 dL_law_732 ?_
        refine Zo_aload0 dL_law_733 ?_
        refine Zo_iload3 dL_law_734 ?_
        refine Zo_iconst (1 : Int32) dL_law_735 ic_1 ?_
        refine Zo_iadd dL_law_736 ?_
        refine Zo_sld dL_law_737 fun v102 => ?_
        show Zo g _ _ _ k0 n0 738 _ _ _
        refine Zo_aload0 dL_law_738 ?_
        refine Zo_iload3 dL_law_739 ?_
        refine Zo_iconst (2 : Int32) dL_law_740 ic_2 ?_
        refine Zo_iadd dL_law_741 ?_
        refine Zo_sld dL_law_742 fun v103 => ?_
        refine Zo_aload0 dL_law_743 ?_
        refine Zo_iload3 dL_law_744 ?_
        refine Zo_iconst (3 : Int32) dL_law_745 ic_3 ?_
        show Zo g _ _ _ k0 n0 746 _ _ _
        refine Zo_iadd dL_law_746 ?_
        refine Zo_sld dL_law_747 fun v104 => ?_
        refine Zo_lVS3 lk_L_81 (e_X10_best g _ _ _ _) kd_68 (zFitL (by decide)) hf (zle rfl) dL_law_748 fun r105 => ?_
        refine Zo_icmpeq 1374 dL_law_751 (by decide) ?_ ?_
        · refine Zo_iinc3 rfl (6 : Int32) ic_6 (zlt rfl) dL_law_1374 ?_
          refine Zo_goto 18 dL_law_1377 (by decide) ?_
          exact ih _ _
        · exact Zo_none
      refine Zo_ite (fun hc16 => ?_) (fun hc16 => ?_)
      · refine Zo_tswC (off := 723) (16 : Int32) 756 hc16 dL_law_33 (by decide) (by decide) (by decide) (by decide) ?_
        refine Zo_aload1 dL_law_756 ?_
        refine Zo_aload0 dL_law_757 ?_
        refine Zo_iload3 dL_law_758 ?_
        refine Zo_iconst (1 : Int32) dL_law_759 ic_1 ?_
        refine Zo_iadd dL_law_760 ?_
        refine Zo_sld dL_law_761 fun v106 => ?_
        refine Zo_aload0 dL_law_762 ?_
        show Zo g _ _ _ k0 n0 763 _ _ _
        refine Zo_iload3 dL_law_763 ?_
        refine Zo_iconst (2 : Int32) dL_law_764 ic_2 ?_
        refine Zo_iadd dL_law_765 ?_
        refine Zo_sld dL_law_766 fun v107 => ?_
        refine Zo_lVS2 lk_L_82 (e_X9_called g _ _ _) kd_0 (zFitL (by decide)) hf (zle rfl) dL_law_767 fun r108 => ?_
        refine Zo_aload2 dL_law_770 ?_
        refine Zo_aload0 dL_law_771 ?_
        refine Zo_iload3 dL_law_772 ?_
        show Zo g _ _ _ k0 n0 773 _ _ _
        refine Zo_iconst (1 : Int32) dL_law_773 ic_1 ?_
        refine Zo_iadd dL_law_774 ?_
        refine Zo_sld dL_law_775 fun v109 => ?_
        refine Zo_aload0 dL_law_776 ?_
        refine Zo_iload3 dL_law_777 ?_
        refine Zo_iconst (2 : Int32) dL_law_778 ic_2 ?_
        refine Zo_iadd dL_law_779 ?_
        refine Zo_sld dL_law_780 fun v110 => ?_
        show Zo g _ _ _ k0 n0 781 _ _ _
        refine Zo_lVS2 lk_L_85 (e_X10_called g _ _ _) kd_68 (zFitL (by decide)) hf (zle rfl) dL_law_781 fun r111 => ?_
        refine Zo_icmpeq 1374 dL_law_784 (by decide) ?_ ?_
        · refine Zo_iinc3 rfl (6 : Int32) ic_6 (zlt rfl) dL_law_1374 ?_
          refine Zo_goto 18 dL_law_1377 (by decide) ?_
          exact ih _ _
        · exact Zo_none
      refine Zo_ite (fun hc17 => ?_) (fun hc17 => ?_)
      · refine Zo_tswC (off := 756) (17 : Int32) 789 hc17 dL_law_33 (by decide) (by decide) (by decide) (by decide) ?_
        refine Zo_aload1 dL_law_789 ?_
        refine Zo_aload0 dL_law_790 ?_
        refine Zo_iload3 dL_law_791 ?_
        refine Zo_iconst (1 : Int32) dL_law_792 ic_1 ?_
        refine Zo_iadd dL_law_793 ?_
        refine Zo_sld dL_law_794 fun v112 => ?_
        refine Zo_aload0 dL_law_795 ?_
        show Zo g _ _ _ k0 n0 796 _ _ _
        refine Zo_iload3 dL_law_796 ?_
        refine Zo_iconst (2 : Int32) dL_law_797 ic_2 ?_
        refine Zo_iadd dL_law_798 ?_
        refine Zo_sld dL_law_799 fun v113 => ?_
        refine Zo_lVS2 lk_L_86 (e_X9_off g _ _ _) kd_0 (zFitL (by decide)) hf (zle rfl) dL_law_800 fun r114 => ?_
        refine Zo_aload2 dL_law_803 ?_
        refine Zo_aload0 dL_law_804 ?_
        refine Zo_iload3 dL_law_805 ?_
        show Zo g _ _ _ k0 n0 806 _ _ _
        refine Zo_iconst (1 : Int32) dL_law_806 ic_1 ?_
        refine Zo_iadd dL_law_807 ?_
        refine Zo_sld dL_law_808 fun v115 => ?_
        refine Zo_aload0 dL_law_809 ?_
        refine Zo_iload3 dL_law_810 ?_
        refine Zo_iconst (2 : Int32) dL_law_811 ic_2 ?_
        refine Zo_iadd dL_law_812 ?_
        refine Zo_sld dL_law_813 fun v116 => ?_
        show Zo g _ _ _ k0 n0 814 _ _ _
        refine Zo_lVS2 lk_L_89 (e_X10_off g _ _ _) kd_68 (zFitL (by decide)) hf (zle rfl) dL_law_814 fun r117 => ?_
        refine Zo_icmpeq 1374 dL_law_817 (by decide) ?_ ?_
        · refine Zo_iinc3 rfl (6 : Int32) ic_6 (zlt rfl) dL_law_1374 ?_
          refine Zo_goto 18 dL_law_1377 (by decide) ?_
          exact ih _ _
        · exact Zo_none
      refine Zo_ite (fun hc18 => ?_) (fun hc18 => ?_)
      · refine Zo_tswC (off := 789) (18 : Int32) 822 hc18 dL_law_33 (by decide) (by decide) (by decide) (by decide) ?_
        refine Zo_aload1 dL_law_822 ?_
        refine Zo_aload0 dL_law_823 ?_
        refine Zo_iload3 dL_law_824 ?_
        refine Zo_iconst (1 : Int32) dL_law_825 ic_1 ?_
        refine Zo_iadd dL_law_826 ?_
        refine Zo_sld dL_law_827 fun v118 => ?_
        refine Zo_aload0 dL_law_828 ?_
        show Zo g _ _ _ k0 n0 829 _ _ _
        refine Zo_iload3 dL_law_829 ?_
        refine Zo_iconst (2 : Int32) dL_law_830 ic_2 ?_
        refine Zo_iadd dL_law_831 ?_
        refine Zo_sld dL_law_832 fun v119 => ?_
        refine Zo_aload0 dL_law_833 ?_
        refine Zo_iload3 dL_law_834 ?_
        refine Zo_iconst (3 : Int32) dL_law_835 ic_3 ?_
        refine Zo_iadd dL_law_836 ?_
        show Zo g _ _ _ k0 n0 837 _ _ _
        refine Zo_sld dL_law_837 fun v120 => ?_
        refine Zo_lVS3 lk_L_90 (e_X9_fund g _ _ _ _) kd_0 (zFitL (by decide)) hf (zle rfl) dL_law_838 fun r121 => ?_
        refine Zo_aload2 dL_law_841 ?_
        refine Zo_aload0 dL_law_842 ?_
        refine Zo_iload3 dL_law_843 ?_
        refine Zo_iconst (1 : Int32) dL_law_844 ic_1 ?_
        refine Zo_iadd dL_law_845 ?_
        refine Zo_sld dL_law_846 fun v122 => ?_
        show Zo g _ _ _ k0 n0 847 _ _ _
        refine Zo_aload0 dL_law_847 ?_
        refine Zo_iload3 dL_law_848 ?_
        refine Zo_iconst (2 : Int32) dL_law_849 ic_2 ?_
        refine Zo_iadd dL_law_850 ?_
        refine Zo_sld dL_law_851 fun v123 => ?_
        refine Zo_aload0 dL_law_852 ?_
        refine Zo_iload3 dL_law_853 ?_
        refine Zo_iconst (3 : Int32) dL_law_854 ic_3 ?_
        show Zo g _ _ _ k0 n0 855 _ _ _
        refine Zo_iadd dL_law_855 ?_
        refine Zo_sld dL_law_856 fun v124 => ?_
        refine Zo_lVI3 lk_L_93 (e_X10_fund g _ _ _ _) kd_68 (zFitL (by decide)) hf (zle rfl) dL_law_857 fun r125 => ?_
        refine Zo_icmpeq 1374 dL_law_860 (by decide) ?_ ?_
        · refine Zo_iinc3 rfl (6 : Int32) ic_6 (zlt rfl) dL_law_1374 ?_
          refine Zo_goto 18 dL_law_1377 (by decide) ?_
          exact ih _ _
        · exact Zo_none
      refine Zo_ite (fun hc19 => ?_) (fun hc19 => ?_)
      · refine Zo_tswC (off := 832) (19 : Int32) 865 hc19 dL_law_33 (by decide) (by decide) (by decide) (by decide) ?_
        refine Zo_aload1 dL_law_865 ?_
        refine Zo_aload0 dL_law_866 ?_
        refine Zo_iload3 dL_law_867 ?_
        refine Zo_iconst (1 : Int32) dL_law_868 ic_1 ?_
        refine Zo_iadd dL_law_869 ?_
        refine Zo_sld dL_law_870 fun v126 => ?_
        refine Zo_lVI1 lk_L_94 (e_X9_fetch g _ _) kd_0 (zFitL (by decide)) hf (zle rfl) dL_law_871 fun r127 => ?_
        show Zo g _ _ _ k0 n0 874 _ _ _
        refine Zo_aload2 dL_law_874 ?_
        refine Zo_aload0 dL_law_875 ?_
        refine Zo_iload3 dL_law_876 ?_
        refine Zo_iconst (1 : Int32) dL_law_877 ic_1 ?_
        refine Zo_iadd dL_law_878 ?_
        refine Zo_sld dL_law_879 fun v128 => ?_
        refine Zo_lVI1 lk_L_97 (e_X10_fetch g _ _) kd_68 (zFitL (by decide)) hf (zle rfl) dL_law_880 fun r129 => ?_
        refine Zo_icmpeq 1374 dL_law_883 (by decide) ?_ ?_
        · refine Zo_iinc3 rfl (6 : Int32) ic_6 (zlt rfl) dL_law_1374 ?_
          refine Zo_goto 18 dL_law_1377 (by decide) ?_
          exact ih _ _
        · exact Zo_none
      refine Zo_ite (fun hc20 => ?_) (fun hc20 => ?_)
      · refine Zo_tswC (off := 855) (20 : Int32) 888 hc20 dL_law_33 (by decide) (by decide) (by decide) (by decide) ?_
        refine Zo_aload1 dL_law_888 ?_
        refine Zo_aload0 dL_law_889 ?_
        refine Zo_iload3 dL_law_890 ?_
        refine Zo_iconst (1 : Int32) dL_law_891 ic_1 ?_
        refine Zo_iadd dL_law_892 ?_
        refine Zo_sld dL_law_893 fun v130 => ?_
        refine Zo_lVI1 lk_L_98 (e_X9_worse g _ _) kd_0 (zFitL (by decide)) hf (zle rfl) dL_law_894 fun r131 => ?_
        show Zo g _ _ _ k0 n0 897 _ _ _
        refine Zo_aload2 dL_law_897 ?_
        refine Zo_aload0 dL_law_898 ?_
        refine Zo_iload3 dL_law_899 ?_
        refine Zo_iconst (1 : Int32) dL_law_900 ic_1 ?_
        refine Zo_iadd dL_law_901 ?_
        refine Zo_sld dL_law_902 fun v132 => ?_
        refine Zo_lVI1 lk_L_101 (e_X10_worse g _ _) kd_68 (zFitL (by decide)) hf (zle rfl) dL_law_903 fun r133 => ?_
        refine Zo_icmpeq 1374 dL_law_906 (by decide) ?_ ?_
        · refine Zo_iinc3 rfl (6 : Int32) ic_6 (zlt rfl) dL_law_1374 ?_
          refine Zo_goto 18 dL_law_1377 (by decide) ?_
          exact ih _ _
        · exact Zo_none
      refine Zo_ite (fun hc21 => ?_) (fun hc21 => ?_)
      · refine Zo_tswC (off := 878) (21 : Int32) 911 hc21 dL_law_33 (by decide) (by decide) (by decide) (by decide) ?_
        refine Zo_aload1 dL_law_911 ?_
        refine Zo_aload0 dL_law_912 ?_
        refine Zo_iload3 dL_law_913 ?_
        refine Zo_iconst (1 : Int32) dL_law_914 ic_1 ?_
        refine Zo_iadd dL_law_915 ?_
        refine Zo_sld dL_law_916 fun v134 => ?_
        refine Zo_aload0 dL_law_917 ?_
        show Zo g _ _ _ k0 n0 918 _ _ _
        refine Zo_iload3 dL_law_918 ?_
        refine Zo_iconst (2 : Int32) dL_law_919 ic_2 ?_
        refine Zo_iadd dL_law_920 ?_
        refine Zo_sld dL_law_921 fun v135 => ?_
        refine Zo_lVI2 lk_L_102 (e_X9_lovers g _ _ _) kd_0 (zFitL (by decide)) hf (zle rfl) dL_law_922 fun r136 => ?_
        refine Zo_aload2 dL_law_925 ?_
        refine Zo_aload0 dL_law_926 ?_
        refine Zo_iload3 dL_law_927 ?_
        show Zo g _ _ _ k0 n0 928 _ _ _
        refine Zo_iconst (1 : Int32) dL_law_928 ic_1 ?_
        refine Zo_iadd dL_law_929 ?_
        refine Zo_sld dL_law_930 fun v137 => ?_
        refine Zo_aload0 dL_law_931 ?_
        refine Zo_iload3 dL_law_932 ?_
        refine Zo_iconst (2 : Int32) dL_law_933 ic_2 ?_
        refine Zo_iadd dL_law_934 ?_
        refine Zo_sld dL_law_935 fun v138 => ?_
        show Zo g _ _ _ k0 n0 936 _ _ _
        refine Zo_lVI2 lk_L_105 (e_X10_lovers g _ _ _) kd_68 (zFitL (by decide)) hf (zle rfl) dL_law_936 fun r139 => ?_
        refine Zo_icmpeq 1374 dL_law_939 (by decide) ?_ ?_
        · refine Zo_iinc3 rfl (6 : Int32) ic_6 (zlt rfl) dL_law_1374 ?_
          refine Zo_goto 18 dL_law_1377 (by decide) ?_
          exact ih _ _
        · exact Zo_none
      refine Zo_ite (fun hc22 => ?_) (fun hc22 => ?_)
      · refine Zo_tswC (off := 911) (22 : Int32) 944 hc22 dL_law_33 (by decide) (by decide) (by decide) (by decide) ?_
        refine Zo_aload1 dL_law_944 ?_
        refine Zo_lVI0 lk_L_106 (e_X9_judge g _) kd_0 (zFitL (by decide)) hf (zle rfl) dL_law_945 fun r140 => ?_
        refine Zo_aload2 dL_law_948 ?_
        refine Zo_lVI0 lk_L_109 (e_X10_judge g _) kd_68 (zFitL (by decide)) hf (zle rfl) dL_law_949 fun r141 => ?_
        refine Zo_icmpeq 1374 dL_law_952 (by decide) ?_ ?_
        · refine Zo_iinc3 rfl (6 : Int32) ic_6 (zlt rfl) dL_law_1374 ?_
          refine Zo_goto 18 dL_law_1377 (by decide) ?_
          exact ih _ _
        · exact Zo_none
      refine Zo_ite (fun hc23 => ?_) (fun hc23 => ?_)
      · refine Zo_tswC (off := 924) (23 : Int32) 957 hc23 dL_law_33 (by decide) (by decide) (by decide) (by decide) ?_
        refine Zo_aload1 dL_law_957 ?_
        refine Zo_lVS0 lk_L_110 (e_X9_undo g _) kd_0 (zFitL (by decide)) hf (zle rfl) dL_law_958 fun r142 => ?_
        refine Zo_aload2 dL_law_961 ?_
        refine Zo_lVS0 lk_L_113 (e_X10_undo g _) kd_68 (zFitL (by decide)) hf (zle rfl) dL_law_962 fun r143 => ?_
        refine Zo_icmpeq 1374 dL_law_965 (by decide) ?_ ?_
        · refine Zo_iinc3 rfl (6 : Int32) ic_6 (zlt rfl) dL_law_1374 ?_
          refine Zo_goto 18 dL_law_1377 (by decide) ?_
          exact ih _ _
        · exact Zo_none
      refine Zo_ite (fun hc24 => ?_) (fun hc24 => ?_)
      · refine Zo_tswC (off := 937) (24 : Int32) 970 hc24 dL_law_33 (by decide) (by decide) (by decide) (by decide) ?_
        refine Zo_aload1 dL_law_970 ?_
        refine Zo_lVS0 lk_L_114 (e_X9_redo g _) kd_0 (zFitL (by decide)) hf (zle rfl) dL_law_971 fun r144 => ?_
        refine Zo_aload2 dL_law_974 ?_
        refine Zo_lVS0 lk_L_117 (e_X10_redo g _) kd_68 (zFitL (by decide)) hf (zle rfl) dL_law_975 fun r145 => ?_
        refine Zo_icmpeq 1374 dL_law_978 (by decide) ?_ ?_
        · refine Zo_iinc3 rfl (6 : Int32) ic_6 (zlt rfl) dL_law_1374 ?_
          refine Zo_goto 18 dL_law_1377 (by decide) ?_
          exact ih _ _
        · exact Zo_none
      refine Zo_ite (fun hc25 => ?_) (fun hc25 => ?_)
      · refine Zo_tswC (off := 950) (25 : Int32) 983 hc25 dL_law_33 (by decide) (by decide) (by decide) (by decide) ?_
        refine Zo_aload1 dL_law_983 ?_
        refine Zo_aload0 dL_law_984 ?_
        refine Zo_iload3 dL_law_985 ?_
        refine Zo_iconst (1 : Int32) dL_law_986 ic_1 ?_
        refine Zo_iadd dL_law_987 ?_
        refine Zo_sld dL_law_988 fun v146 => ?_
        refine Zo_lVS1 lk_L_118 (e_X9_body g _ _) kd_0 (zFitL (by decide)) hf (zle rfl) dL_law_989 fun r147 => ?_
        show Zo g _ _ _ k0 n0 992 _ _ _
        refine Zo_aload2 dL_law_992 ?_
        refine Zo_aload0 dL_law_993 ?_
        refine Zo_iload3 dL_law_994 ?_
        refine Zo_iconst (1 : Int32) dL_law_995 ic_1 ?_
        refine Zo_iadd dL_law_996 ?_
        refine Zo_sld dL_law_997 fun v148 => ?_
        refine Zo_lVS1 lk_L_121 (e_X10_body g _ _) kd_68 (zFitL (by decide)) hf (zle rfl) dL_law_998 fun r149 => ?_
        refine Zo_icmpeq 1374 dL_law_1001 (by decide) ?_ ?_
        · refine Zo_iinc3 rfl (6 : Int32) ic_6 (zlt rfl) dL_law_1374 ?_
          refine Zo_goto 18 dL_law_1377 (by decide) ?_
          exact ih _ _
        · exact Zo_none
      refine Zo_ite (fun hc26 => ?_) (fun hc26 => ?_)
      · refine Zo_tswC (off := 973) (26 : Int32) 1006 hc26 dL_law_33 (by decide) (by decide) (by decide) (by decide) ?_
        refine Zo_aload1 dL_law_1006 ?_
        refine Zo_aload0 dL_law_1007 ?_
        refine Zo_iload3 dL_law_1008 ?_
        refine Zo_iconst (1 : Int32) dL_law_1009 ic_1 ?_
        refine Zo_iadd dL_law_1010 ?_
        refine Zo_sld dL_law_1011 fun v150 => ?_
        refine Zo_aload0 dL_law_1012 ?_
        show Zo g _ _ _ k0 n0 1013 _ _ _
        refine Zo_iload3 dL_law_1013 ?_
        refine Zo_iconst (2 : Int32) dL_law_1014 ic_2 ?_
        refine Zo_iadd dL_law_1015 ?_
        refine Zo_sld dL_law_1016 fun v151 => ?_
        refine Zo_aload0 dL_law_1017 ?_
        refine Zo_iload3 dL_law_1018 ?_
        refine Zo_iconst (3 : Int32) dL_law_1019 ic_3 ?_
        refine Zo_iadd dL_law_1020 ?_
        show Zo g _ _ _ k0 n0 1021 _ _ _
        refine Zo_sld dL_law_1021 fun v152 => ?_
        refine Zo_lVS3 lk_L_122 (e_X9_act g _ _ _ _) kd_0 (zFitL (by decide)) hf (zle rfl) dL_law_1022 fun r153 => ?_
        refine Zo_aload2 dL_law_1025 ?_
        refine Zo_aload0 dL_law_1026 ?_
        refine Zo_iload3 dL_law_1027 ?_
        refine Zo_iconst (1 : Int32) dL_law_1028 ic_1 ?_
        refine Zo_iadd dL_law_1029 ?_
        refine Zo_sld dL_law_1030 fun v154 => ?_
        show Zo g _ _ _ k0 n0 1031 _ _ _
        refine Zo_aload0 dL_law_1031 ?_
        refine Zo_iload3 dL_law_1032 ?_
        refine Zo_iconst (2 : Int32) dL_law_1033 ic_2 ?_
        refine Zo_iadd dL_law_1034 ?_
        refine Zo_sld dL_law_1035 fun v155 => ?_
        refine Zo_aload0 dL_law_1036 ?_
        refine Zo_iload3 dL_law_1037 ?_
        refine Zo_iconst (3 : Int32) dL_law_1038 ic_3 ?_
        show Zo g _ _ _ k0 n0 1039 _ _ _
        refine Zo_iadd dL_law_1039 ?_
        refine Zo_sld dL_law_1040 fun v156 => ?_
        refine Zo_lVS3 lk_L_125 (e_X10_act g _ _ _ _) kd_68 (zFitL (by decide)) hf (zle rfl) dL_law_1041 fun r157 => ?_
        refine Zo_icmpeq 1374 dL_law_1044 (by decide) ?_ ?_
        · refine Zo_iinc3 rfl (6 : Int32) ic_6 (zlt rfl) dL_law_1374 ?_
          refine Zo_goto 18 dL_law_1377 (by decide) ?_
          exact ih _ _
        · exact Zo_none
      refine Zo_ite (fun hc27 => ?_) (fun hc27 => ?_)
      · refine Zo_tswC (off := 1016) (27 : Int32) 1049 hc27 dL_law_33 (by decide) (by decide) (by decide) (by decide) ?_
        refine Zo_aload1 dL_law_1049 ?_
        refine Zo_aload0 dL_law_1050 ?_
        refine Zo_iload3 dL_law_1051 ?_
        refine Zo_iconst (1 : Int32) dL_law_1052 ic_1 ?_
        refine Zo_iadd dL_law_1053 ?_
        refine Zo_sld dL_law_1054 fun v158 => ?_
        refine Zo_lVI1 lk_L_126 (e_X9_trace g _ _) kd_0 (zFitL (by decide)) hf (zle rfl) dL_law_1055 fun r159 => ?_
        show Zo g _ _ _ k0 n0 1058 _ _ _
        refine Zo_aload2 dL_law_1058 ?_
        refine Zo_aload0 dL_law_1059 ?_
        refine Zo_iload3 dL_law_1060 ?_
        refine Zo_iconst (1 : Int32) dL_law_1061 ic_1 ?_
        refine Zo_iadd dL_law_1062 ?_
        refine Zo_sld dL_law_1063 fun v160 => ?_
        refine Zo_lVI1 lk_L_129 (e_X10_trace g _ _) kd_68 (zFitL (by decide)) hf (zle rfl) dL_law_1064 fun r161 => ?_
        refine Zo_icmpeq 1374 dL_law_1067 (by decide) ?_ ?_
        · refine Zo_iinc3 rfl (6 : Int32) ic_6 (zlt rfl) dL_law_1374 ?_
          refine Zo_goto 18 dL_law_1377 (by decide) ?_
          exact ih _ _
        · exact Zo_none
      refine Zo_ite (fun hc28 => ?_) (fun hc28 => ?_)
      · refine Zo_tswC (off := 1039) (28 : Int32) 1072 hc28 dL_law_33 (by decide) (by decide) (by decide) (by decide) ?_
        refine Zo_aload1 dL_law_1072 ?_
        refine Zo_aload0 dL_law_1073 ?_
        refine Zo_iload3 dL_law_1074 ?_
        refine Zo_iconst (1 : Int32) dL_law_1075 ic_1 ?_
        refine Zo_iadd dL_law_1076 ?_
        refine Zo_sld dL_law_1077 fun v162 => ?_
        refine Zo_aload0 dL_law_1078 ?_
        show Zo g _ _ _ k0 n0 1079 _ _ _
        refine Zo_iload3 dL_law_1079 ?_
        refine Zo_iconst (2 : Int32) dL_law_1080 ic_2 ?_
        refine Zo_iadd dL_law_1081 ?_
        refine Zo_sld dL_law_1082 fun v163 => ?_
        refine Zo_lVS2 lk_L_130 (e_X9_keep g _ _ _) kd_0 (zFitL (by decide)) hf (zle rfl) dL_law_1083 fun r164 => ?_
        refine Zo_aload2 dL_law_1086 ?_
        refine Zo_aload0 dL_law_1087 ?_
        refine Zo_iload3 dL_law_1088 ?_
        show Zo g _ _ _ k0 n0 1089 _ _ _
        refine Zo_iconst (1 : Int32) dL_law_1089 ic_1 ?_
        refine Zo_iadd dL_law_1090 ?_
        refine Zo_sld dL_law_1091 fun v165 => ?_
        refine Zo_aload0 dL_law_1092 ?_
        refine Zo_iload3 dL_law_1093 ?_
        refine Zo_iconst (2 : Int32) dL_law_1094 ic_2 ?_
        refine Zo_iadd dL_law_1095 ?_
        refine Zo_sld dL_law_1096 fun v166 => ?_
        show Zo g _ _ _ k0 n0 1097 _ _ _
        refine Zo_lVS2 lk_L_133 (e_X10_keep g _ _ _) kd_68 (zFitL (by decide)) hf (zle rfl) dL_law_1097 fun r167 => ?_
        refine Zo_icmpeq 1374 dL_law_1100 (by decide) ?_ ?_
        · refine Zo_iinc3 rfl (6 : Int32) ic_6 (zlt rfl) dL_law_1374 ?_
          refine Zo_goto 18 dL_law_1377 (by decide) ?_
          exact ih _ _
        · exact Zo_none
      refine Zo_ite (fun hc29 => ?_) (fun hc29 => ?_)
      · refine Zo_tswC (off := 1072) (29 : Int32) 1105 hc29 dL_law_33 (by decide) (by decide) (by decide) (by decide) ?_
        refine Zo_aload1 dL_law_1105 ?_
        refine Zo_aload0 dL_law_1106 ?_
        refine Zo_iload3 dL_law_1107 ?_
        refine Zo_iconst (1 : Int32) dL_law_1108 ic_1 ?_
        refine Zo_iadd dL_law_1109 ?_
        refine Zo_sld dL_law_1110 fun v168 => ?_
        refine Zo_aload0 dL_law_1111 ?_
        show Zo g _ _ _ k0 n0 1112 _ _ _
        refine Zo_iload3 dL_law_1112 ?_
        refine Zo_iconst (2 : Int32) dL_law_1113 ic_2 ?_
        refine Zo_iadd dL_law_1114 ?_
        refine Zo_sld dL_law_1115 fun v169 => ?_
        refine Zo_aload0 dL_law_1116 ?_
        refine Zo_iload3 dL_law_1117 ?_
        refine Zo_iconst (3 : Int32) dL_law_1118 ic_3 ?_
        refine Zo_iadd dL_law_1119 ?_
        show Zo g _ _ _ k0 n0 1120 _ _ _
        refine Zo_sld dL_law_1120 fun v170 => ?_
        refine Zo_lVS3 lk_L_134 (e_X9_row g _ _ _ _) kd_0 (zFitL (by decide)) hf (zle rfl) dL_law_1121 fun r171 => ?_
        refine Zo_aload2 dL_law_1124 ?_
        refine Zo_aload0 dL_law_1125 ?_
        refine Zo_iload3 dL_law_1126 ?_
        refine Zo_iconst (1 : Int32) dL_law_1127 ic_1 ?_
        refine Zo_iadd dL_law_1128 ?_
        refine Zo_sld dL_law_1129 fun v172 => ?_
        show Zo g _ _ _ k0 n0 1130 _ _ _
        refine Zo_aload0 dL_law_1130 ?_
        refine Zo_iload3 dL_law_1131 ?_
        refine Zo_iconst (2 : Int32) dL_law_1132 ic_2 ?_
        refine Zo_iadd dL_law_1133 ?_
        refine Zo_sld dL_law_1134 fun v173 => ?_
        refine Zo_aload0 dL_law_1135 ?_
        refine Zo_iload3 dL_law_1136 ?_
        refine Zo_iconst (3 : Int32) dL_law_1137 ic_3 ?_
        show Zo g _ _ _ k0 n0 1138 _ _ _
        refine Zo_iadd dL_law_1138 ?_
        refine Zo_sld dL_law_1139 fun v174 => ?_
        refine Zo_lVS3 lk_L_137 (e_X10_row g _ _ _ _) kd_68 (zFitL (by decide)) hf (zle rfl) dL_law_1140 fun r175 => ?_
        refine Zo_icmpeq 1374 dL_law_1143 (by decide) ?_ ?_
        · refine Zo_iinc3 rfl (6 : Int32) ic_6 (zlt rfl) dL_law_1374 ?_
          refine Zo_goto 18 dL_law_1377 (by decide) ?_
          exact ih _ _
        · exact Zo_none
      refine Zo_ite (fun hc30 => ?_) (fun hc30 => ?_)
      · refine Zo_tswC (off := 1115) (30 : Int32) 1148 hc30 dL_law_33 (by decide) (by decide) (by decide) (by decide) ?_
        refine Zo_aload1 dL_law_1148 ?_
        refine Zo_aload0 dL_law_1149 ?_
        refine Zo_iload3 dL_law_1150 ?_
        refine Zo_iconst (1 : Int32) dL_law_1151 ic_1 ?_
        refine Zo_iadd dL_law_1152 ?_
        refine Zo_sld dL_law_1153 fun v176 => ?_
        refine Zo_aload0 dL_law_1154 ?_
        show Zo g _ _ _ k0 n0 1155 _ _ _
        refine Zo_iload3 dL_law_1155 ?_
        refine Zo_iconst (2 : Int32) dL_law_1156 ic_2 ?_
        refine Zo_iadd dL_law_1157 ?_
        refine Zo_sld dL_law_1158 fun v177 => ?_
        refine Zo_aload0 dL_law_1159 ?_
        refine Zo_iload3 dL_law_1160 ?_
        refine Zo_iconst (3 : Int32) dL_law_1161 ic_3 ?_
        refine Zo_iadd dL_law_1162 ?_
        show Zo g _ _ _ k0 n0 1163 _ _ _
        refine Zo_sld dL_law_1163 fun v178 => ?_
        refine Zo_i2l dL_law_1164 ?_
        refine Zo_bipush (32 : Int32) dL_law_1165 bp_32 ?_
        refine Zo_lshl dL_law_1167 ?_
        refine Zo_aload0 dL_law_1168 ?_
        refine Zo_iload3 dL_law_1169 ?_
        refine Zo_iconst (4 : Int32) dL_law_1170 ic_4 ?_
        refine Zo_iadd dL_law_1171 ?_
        show Zo g _ _ _ k0 n0 1172 _ _ _
        refine Zo_sld dL_law_1172 fun v179 => ?_
        refine Zo_i2l dL_law_1173 ?_
        refine Zo_ldc2 rfl cw_L_138 dL_law_1174 ?_
        refine Zo_land dL_law_1177 ?_
        refine Zo_lor dL_law_1178 ?_
        refine Zo_lVS3 lk_L_140 (e_X9_put g _ _ _ _) kd_0 (zFitL (by decide)) hf (zle rfl) dL_law_1179 fun r180 => ?_
        refine Zo_aload2 dL_law_1182 ?_
        refine Zo_aload0 dL_law_1183 ?_
        show Zo g _ _ _ k0 n0 1184 _ _ _
        refine Zo_iload3 dL_law_1184 ?_
        refine Zo_iconst (1 : Int32) dL_law_1185 ic_1 ?_
        refine Zo_iadd dL_law_1186 ?_
        refine Zo_sld dL_law_1187 fun v181 => ?_
        refine Zo_aload0 dL_law_1188 ?_
        refine Zo_iload3 dL_law_1189 ?_
        refine Zo_iconst (2 : Int32) dL_law_1190 ic_2 ?_
        refine Zo_iadd dL_law_1191 ?_
        show Zo g _ _ _ k0 n0 1192 _ _ _
        refine Zo_sld dL_law_1192 fun v182 => ?_
        refine Zo_aload0 dL_law_1193 ?_
        refine Zo_iload3 dL_law_1194 ?_
        refine Zo_iconst (3 : Int32) dL_law_1195 ic_3 ?_
        refine Zo_iadd dL_law_1196 ?_
        refine Zo_sld dL_law_1197 fun v183 => ?_
        refine Zo_i2l dL_law_1198 ?_
        refine Zo_bipush (32 : Int32) dL_law_1199 bp_32 ?_
        show Zo g _ _ _ k0 n0 1201 _ _ _
        refine Zo_lshl dL_law_1201 ?_
        refine Zo_aload0 dL_law_1202 ?_
        refine Zo_iload3 dL_law_1203 ?_
        refine Zo_iconst (4 : Int32) dL_law_1204 ic_4 ?_
        refine Zo_iadd dL_law_1205 ?_
        refine Zo_sld dL_law_1206 fun v184 => ?_
        refine Zo_i2l dL_law_1207 ?_
        refine Zo_ldc2 rfl cw_L_138 dL_law_1208 ?_
        show Zo g _ _ _ k0 n0 1211 _ _ _
        refine Zo_land dL_law_1211 ?_
        refine Zo_lor dL_law_1212 ?_
        refine Zo_lVS3 lk_L_144 (e_X10_put g _ _ _ _) kd_68 (zFitL (by decide)) hf (zle rfl) dL_law_1213 fun r185 => ?_
        refine Zo_icmpeq 1374 dL_law_1216 (by decide) ?_ ?_
        · refine Zo_iinc3 rfl (6 : Int32) ic_6 (zlt rfl) dL_law_1374 ?_
          refine Zo_goto 18 dL_law_1377 (by decide) ?_
          exact ih _ _
        · exact Zo_none
      refine Zo_ite (fun hc31 => ?_) (fun hc31 => ?_)
      · refine Zo_tswC (off := 1188) (31 : Int32) 1221 hc31 dL_law_33 (by decide) (by decide) (by decide) (by decide) ?_
        refine Zo_aload1 dL_law_1221 ?_
        refine Zo_aload0 dL_law_1222 ?_
        refine Zo_iload3 dL_law_1223 ?_
        refine Zo_iconst (1 : Int32) dL_law_1224 ic_1 ?_
        refine Zo_iadd dL_law_1225 ?_
        refine Zo_sld dL_law_1226 fun v186 => ?_
        refine Zo_aload0 dL_law_1227 ?_
        show Zo g _ _ _ k0 n0 1228 _ _ _
        refine Zo_iload3 dL_law_1228 ?_
        refine Zo_iconst (2 : Int32) dL_law_1229 ic_2 ?_
        refine Zo_iadd dL_law_1230 ?_
        refine Zo_sld dL_law_1231 fun v187 => ?_
        refine Zo_lVJ2 lk_L_145 (e_X9_element g _ _ _) kd_0 (zFitL (by decide)) hf (zle rfl) dL_law_1232 fun r188 => ?_
        refine Zo_aload2 dL_law_1235 ?_
        refine Zo_aload0 dL_law_1236 ?_
        refine Zo_iload3 dL_law_1237 ?_
        show Zo g _ _ _ k0 n0 1238 _ _ _
        refine Zo_iconst (1 : Int32) dL_law_1238 ic_1 ?_
        refine Zo_iadd dL_law_1239 ?_
        refine Zo_sld dL_law_1240 fun v189 => ?_
        refine Zo_aload0 dL_law_1241 ?_
        refine Zo_iload3 dL_law_1242 ?_
        refine Zo_iconst (2 : Int32) dL_law_1243 ic_2 ?_
        refine Zo_iadd dL_law_1244 ?_
        refine Zo_sld dL_law_1245 fun v190 => ?_
        show Zo g _ _ _ k0 n0 1246 _ _ _
        refine Zo_lVJ2 lk_L_149 (e_X10_element g _ _ _) kd_68 (zFitL (by decide)) hf (zle rfl) dL_law_1246 fun r191 => ?_
        refine Zo_lcmp dL_law_1249 ?_
        refine Zo_ifeq 1374 dL_law_1250 (by decide) ?_ ?_
        · refine Zo_iinc3 rfl (6 : Int32) ic_6 (zlt rfl) dL_law_1374 ?_
          refine Zo_goto 18 dL_law_1377 (by decide) ?_
          exact ih _ _
        · exact Zo_none
      refine Zo_ite (fun hc32 => ?_) (fun hc32 => ?_)
      · refine Zo_tswC (off := 1222) (32 : Int32) 1255 hc32 dL_law_33 (by decide) (by decide) (by decide) (by decide) ?_
        refine Zo_aload1 dL_law_1255 ?_
        refine Zo_aload0 dL_law_1256 ?_
        refine Zo_iload3 dL_law_1257 ?_
        refine Zo_iconst (1 : Int32) dL_law_1258 ic_1 ?_
        refine Zo_iadd dL_law_1259 ?_
        refine Zo_sld dL_law_1260 fun v192 => ?_
        refine Zo_aload0 dL_law_1261 ?_
        show Zo g _ _ _ k0 n0 1262 _ _ _
        refine Zo_iload3 dL_law_1262 ?_
        refine Zo_iconst (2 : Int32) dL_law_1263 ic_2 ?_
        refine Zo_iadd dL_law_1264 ?_
        refine Zo_sld dL_law_1265 fun v193 => ?_
        refine Zo_aload0 dL_law_1266 ?_
        refine Zo_iload3 dL_law_1267 ?_
        refine Zo_iconst (3 : Int32) dL_law_1268 ic_3 ?_
        refine Zo_iadd dL_law_1269 ?_
        show Zo g _ _ _ k0 n0 1270 _ _ _
        refine Zo_sld dL_law_1270 fun v194 => ?_
        refine Zo_aload0 dL_law_1271 ?_
        refine Zo_iload3 dL_law_1272 ?_
        refine Zo_iconst (4 : Int32) dL_law_1273 ic_4 ?_
        refine Zo_iadd dL_law_1274 ?_
        refine Zo_sld dL_law_1275 fun v195 => ?_
        refine Zo_aload0 dL_law_1276 ?_
        refine Zo_iload3 dL_law_1277 ?_
        show Zo g _ _ _ k0 n0 1278 _ _ _
        refine Zo_iconst (5 : Int32) dL_law_1278 ic_5 ?_
        refine Zo_iadd dL_law_1279 ?_
        refine Zo_sld dL_law_1280 fun v196 => ?_
        refine Zo_lVS5 lk_L_150 (e_X9_shift g _ _ _ _ _ _) kd_0 (zFitL (by decide)) hf (zle rfl) dL_law_1281 fun r197 => ?_
        refine Zo_aload2 dL_law_1284 ?_
        refine Zo_aload0 dL_law_1285 ?_
        refine Zo_iload3 dL_law_1286 ?_
        refine Zo_iconst (1 : Int32) dL_law_1287 ic_1 ?_
        show Zo g _ _ _ k0 n0 1288 _ _ _
        refine Zo_iadd dL_law_1288 ?_
        refine Zo_sld dL_law_1289 fun v198 => ?_
        refine Zo_aload0 dL_law_1290 ?_
        refine Zo_iload3 dL_law_1291 ?_
        refine Zo_iconst (2 : Int32) dL_law_1292 ic_2 ?_
        refine Zo_iadd dL_law_1293 ?_
        refine Zo_sld dL_law_1294 fun v199 => ?_
        refine Zo_aload0 dL_law_1295 ?_
        show Zo g _ _ _ k0 n0 1296 _ _ _
        refine Zo_iload3 dL_law_1296 ?_
        refine Zo_iconst (3 : Int32) dL_law_1297 ic_3 ?_
        refine Zo_iadd dL_law_1298 ?_
        refine Zo_sld dL_law_1299 fun v200 => ?_
        refine Zo_aload0 dL_law_1300 ?_
        refine Zo_iload3 dL_law_1301 ?_
        refine Zo_iconst (4 : Int32) dL_law_1302 ic_4 ?_
        refine Zo_iadd dL_law_1303 ?_
        show Zo g _ _ _ k0 n0 1304 _ _ _
        refine Zo_sld dL_law_1304 fun v201 => ?_
        refine Zo_aload0 dL_law_1305 ?_
        refine Zo_iload3 dL_law_1306 ?_
        refine Zo_iconst (5 : Int32) dL_law_1307 ic_5 ?_
        refine Zo_iadd dL_law_1308 ?_
        refine Zo_sld dL_law_1309 fun v202 => ?_
        refine Zo_lVS5 lk_L_154 (e_X10_shift g _ _ _ _ _ _) kd_68 (zFitL (by decide)) hf (zle rfl) dL_law_1310 fun r203 => ?_
        refine Zo_icmpeq 1374 dL_law_1313 (by decide) ?_ ?_
        · refine Zo_iinc3 rfl (6 : Int32) ic_6 (zlt rfl) dL_law_1374 ?_
          refine Zo_goto 18 dL_law_1377 (by decide) ?_
          exact ih _ _
        · exact Zo_none
      refine Zo_ite (fun hc33 => ?_) (fun hc33 => ?_)
      · refine Zo_tswC (off := 1285) (33 : Int32) 1318 hc33 dL_law_33 (by decide) (by decide) (by decide) (by decide) ?_
        refine Zo_aload1 dL_law_1318 ?_
        refine Zo_aload0 dL_law_1319 ?_
        refine Zo_iload3 dL_law_1320 ?_
        refine Zo_iconst (1 : Int32) dL_law_1321 ic_1 ?_
        refine Zo_iadd dL_law_1322 ?_
        refine Zo_sld dL_law_1323 fun v204 => ?_
        refine Zo_aload0 dL_law_1324 ?_
        show Zo g _ _ _ k0 n0 1325 _ _ _
        refine Zo_iload3 dL_law_1325 ?_
        refine Zo_iconst (2 : Int32) dL_law_1326 ic_2 ?_
        refine Zo_iadd dL_law_1327 ?_
        refine Zo_sld dL_law_1328 fun v205 => ?_
        refine Zo_lVI2 lk_L_155 (e_X9_taken g _ _ _) kd_0 (zFitL (by decide)) hf (zle rfl) dL_law_1329 fun r206 => ?_
        refine Zo_aload2 dL_law_1332 ?_
        refine Zo_aload0 dL_law_1333 ?_
        refine Zo_iload3 dL_law_1334 ?_
        show Zo g _ _ _ k0 n0 1335 _ _ _
        refine Zo_iconst (1 : Int32) dL_law_1335 ic_1 ?_
        refine Zo_iadd dL_law_1336 ?_
        refine Zo_sld dL_law_1337 fun v207 => ?_
        refine Zo_aload0 dL_law_1338 ?_
        refine Zo_iload3 dL_law_1339 ?_
        refine Zo_iconst (2 : Int32) dL_law_1340 ic_2 ?_
        refine Zo_iadd dL_law_1341 ?_
        refine Zo_sld dL_law_1342 fun v208 => ?_
        show Zo g _ _ _ k0 n0 1343 _ _ _
        refine Zo_lVI2 lk_L_158 (e_X10_taken g _ _ _) kd_68 (zFitL (by decide)) hf (zle rfl) dL_law_1343 fun r209 => ?_
        refine Zo_icmpeq 1374 dL_law_1346 (by decide) ?_ ?_
        · refine Zo_iinc3 rfl (6 : Int32) ic_6 (zlt rfl) dL_law_1374 ?_
          refine Zo_goto 18 dL_law_1377 (by decide) ?_
          exact ih _ _
        · exact Zo_none
      refine Zo_ite (fun hc34 => ?_) (fun hc34 => ?_)
      · refine Zo_tswC (off := 1318) (34 : Int32) 1351 hc34 dL_law_33 (by decide) (by decide) (by decide) (by decide) ?_
        refine Zo_aload1 dL_law_1351 ?_
        refine Zo_aload0 dL_law_1352 ?_
        refine Zo_iload3 dL_law_1353 ?_
        refine Zo_iconst (1 : Int32) dL_law_1354 ic_1 ?_
        refine Zo_iadd dL_law_1355 ?_
        refine Zo_sld dL_law_1356 fun v210 => ?_
        refine Zo_lVI1 lk_L_159 (e_X9_count g _ _) kd_0 (zFitL (by decide)) hf (zle rfl) dL_law_1357 fun r211 => ?_
        show Zo g _ _ _ k0 n0 1360 _ _ _
        refine Zo_aload2 dL_law_1360 ?_
        refine Zo_aload0 dL_law_1361 ?_
        refine Zo_iload3 dL_law_1362 ?_
        refine Zo_iconst (1 : Int32) dL_law_1363 ic_1 ?_
        refine Zo_iadd dL_law_1364 ?_
        refine Zo_sld dL_law_1365 fun v212 => ?_
        refine Zo_lVI1 lk_L_162 (e_X10_count g _ _) kd_68 (zFitL (by decide)) hf (zle rfl) dL_law_1366 fun r213 => ?_
        refine Zo_icmpeq 1374 dL_law_1369 (by decide) ?_ ?_
        · refine Zo_iinc3 rfl (6 : Int32) ic_6 (zlt rfl) dL_law_1374 ?_
          refine Zo_goto 18 dL_law_1377 (by decide) ?_
          exact ih _ _
        · exact Zo_none
      refine Zo_tswOut 1374 dL_law_33 (by have a0 := zne_0 hc0; have a1 := zne_1 hc1; have a2 := zne_2 hc2; have a3 := zne_3 hc3; have a4 := zne_4 hc4; have a5 := zne_5 hc5; have a6 := zne_6 hc6; have a7 := zne_7 hc7; have a8 := zne_8 hc8; have a9 := zne_9 hc9; have a10 := zne_10 hc10; have a11 := zne_11 hc11; have a12 := zne_12 hc12; have a13 := zne_13 hc13; have a14 := zne_14 hc14; have a15 := zne_15 hc15; have a16 := zne_16 hc16; have a17 := zne_17 hc17; have a18 := zne_18 hc18; have a19 := zne_19 hc19; have a20 := zne_20 hc20; have a21 := zne_21 hc21; have a22 := zne_22 hc22; have a23 := zne_23 hc23; have a24 := zne_24 hc24; have a25 := zne_25 hc25; have a26 := zne_26 hc26; have a27 := zne_27 hc27; have a28 := zne_28 hc28; have a29 := zne_29 hc29; have a30 := zne_30 hc30; have a31 := zne_31 hc31; have a32 := zne_32 hc32; have a33 := zne_33 hc33; have a34 := zne_34 hc34; omega) (by decide) ?_
      refine Zo_iinc3 rfl (6 : Int32) ic_6 (zlt rfl) dL_law_1374 ?_
      refine Zo_goto 18 dL_law_1377 (by decide) ?_
      exact ih _ _
