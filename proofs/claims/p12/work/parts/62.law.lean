set_option maxRecDepth 100000 in
theorem gw_528 : (.methodLink RL 13 yX10_feed : Cond) ∈ lw_gt := gt_of (List.mem_of_getElem? (i := 528) (by decide +kernel)) (by rfl)
set_option maxRecDepth 100000 in
theorem gw_529 : (.instanceMethod yX10_feed : Cond) ∈ lw_gt := gt_of (List.mem_of_getElem? (i := 529) (by decide +kernel)) (by rfl)
set_option maxRecDepth 100000 in
theorem gw_530 : (.selects RX10 yX10_feed yX10_feed : Cond) ∈ lw_gt := gt_of (List.mem_of_getElem? (i := 530) (by decide +kernel)) (by rfl)
set_option maxRecDepth 100000 in
theorem gw_531 : (.code yX10_feed cX10_feed 6 (some .int) : Cond) ∈ lw_gt := gt_of (List.mem_of_getElem? (i := 531) rfl) (by rfl)
set_option maxRecDepth 100000 in
theorem gw_1304 : (.methodLink RL 17 yX11_feed : Cond) ∈ lw_gt := gt_of (List.mem_of_getElem? (i := 1304) (by decide +kernel)) (by rfl)
set_option maxRecDepth 100000 in
theorem gw_1305 : (.instanceMethod yX11_feed : Cond) ∈ lw_gt := gt_of (List.mem_of_getElem? (i := 1305) (by decide +kernel)) (by rfl)
set_option maxRecDepth 100000 in
theorem gw_1306 : (.selects RX11 yX11_feed yX11_feed : Cond) ∈ lw_gt := gt_of (List.mem_of_getElem? (i := 1306) (by decide +kernel)) (by rfl)
set_option maxRecDepth 100000 in
theorem gw_1307 : (.code yX11_feed cX11_feed 8 (some .int) : Cond) ∈ lw_gt := gt_of (List.mem_of_getElem? (i := 1307) rfl) (by rfl)
set_option maxRecDepth 100000 in
theorem gw_536 : (.methodLink RL 18 yX10_text : Cond) ∈ lw_gt := gt_of (List.mem_of_getElem? (i := 536) (by decide +kernel)) (by rfl)
set_option maxRecDepth 100000 in
theorem gw_537 : (.instanceMethod yX10_text : Cond) ∈ lw_gt := gt_of (List.mem_of_getElem? (i := 537) (by decide +kernel)) (by rfl)
set_option maxRecDepth 100000 in
theorem gw_538 : (.selects RX10 yX10_text yX10_text : Cond) ∈ lw_gt := gt_of (List.mem_of_getElem? (i := 538) (by decide +kernel)) (by rfl)
set_option maxRecDepth 100000 in
theorem gw_539 : (.code yX10_text cX10_text 3 (some .int) : Cond) ∈ lw_gt := gt_of (List.mem_of_getElem? (i := 539) rfl) (by rfl)
set_option maxRecDepth 100000 in
theorem gw_1308 : (.methodLink RL 22 yX11_text : Cond) ∈ lw_gt := gt_of (List.mem_of_getElem? (i := 1308) (by decide +kernel)) (by rfl)
set_option maxRecDepth 100000 in
theorem gw_1309 : (.instanceMethod yX11_text : Cond) ∈ lw_gt := gt_of (List.mem_of_getElem? (i := 1309) (by decide +kernel)) (by rfl)
set_option maxRecDepth 100000 in
theorem gw_1310 : (.selects RX11 yX11_text yX11_text : Cond) ∈ lw_gt := gt_of (List.mem_of_getElem? (i := 1310) (by decide +kernel)) (by rfl)
set_option maxRecDepth 100000 in
theorem gw_1311 : (.code yX11_text cX11_text 2 (some .int) : Cond) ∈ lw_gt := gt_of (List.mem_of_getElem? (i := 1311) rfl) (by rfl)
set_option maxRecDepth 100000 in
theorem gw_798 : (.methodLink RL 23 yX10_fault : Cond) ∈ lw_gt := gt_of (List.mem_of_getElem? (i := 798) (by decide +kernel)) (by rfl)
set_option maxRecDepth 100000 in
theorem gw_799 : (.instanceMethod yX10_fault : Cond) ∈ lw_gt := gt_of (List.mem_of_getElem? (i := 799) (by decide +kernel)) (by rfl)
set_option maxRecDepth 100000 in
theorem gw_800 : (.selects RX10 yX10_fault yX10_fault : Cond) ∈ lw_gt := gt_of (List.mem_of_getElem? (i := 800) (by decide +kernel)) (by rfl)
set_option maxRecDepth 100000 in
theorem gw_801 : (.code yX10_fault cX10_fault 2 (some .int) : Cond) ∈ lw_gt := gt_of (List.mem_of_getElem? (i := 801) rfl) (by rfl)
set_option maxRecDepth 100000 in
theorem gw_1410 : (.methodLink RL 26 yX11_fault : Cond) ∈ lw_gt := gt_of (List.mem_of_getElem? (i := 1410) (by decide +kernel)) (by rfl)
set_option maxRecDepth 100000 in
theorem gw_1411 : (.instanceMethod yX11_fault : Cond) ∈ lw_gt := gt_of (List.mem_of_getElem? (i := 1411) (by decide +kernel)) (by rfl)
set_option maxRecDepth 100000 in
theorem gw_1412 : (.selects RX11 yX11_fault yX11_fault : Cond) ∈ lw_gt := gt_of (List.mem_of_getElem? (i := 1412) (by decide +kernel)) (by rfl)
set_option maxRecDepth 100000 in
theorem gw_1413 : (.code yX11_fault cX11_fault 2 (some .int) : Cond) ∈ lw_gt := gt_of (List.mem_of_getElem? (i := 1413) rfl) (by rfl)
set_option maxRecDepth 100000 in
theorem gw_802 : (.methodLink RL 27 yX10_entry : Cond) ∈ lw_gt := gt_of (List.mem_of_getElem? (i := 802) (by decide +kernel)) (by rfl)
set_option maxRecDepth 100000 in
theorem gw_803 : (.instanceMethod yX10_entry : Cond) ∈ lw_gt := gt_of (List.mem_of_getElem? (i := 803) (by decide +kernel)) (by rfl)
set_option maxRecDepth 100000 in
theorem gw_804 : (.selects RX10 yX10_entry yX10_entry : Cond) ∈ lw_gt := gt_of (List.mem_of_getElem? (i := 804) (by decide +kernel)) (by rfl)
set_option maxRecDepth 100000 in
theorem gw_805 : (.code yX10_entry cX10_entry 2 (some .boolean) : Cond) ∈ lw_gt := gt_of (List.mem_of_getElem? (i := 805) rfl) (by rfl)
set_option maxRecDepth 100000 in
theorem gw_1414 : (.methodLink RL 31 yX11_entry : Cond) ∈ lw_gt := gt_of (List.mem_of_getElem? (i := 1414) (by decide +kernel)) (by rfl)
set_option maxRecDepth 100000 in
theorem gw_1415 : (.instanceMethod yX11_entry : Cond) ∈ lw_gt := gt_of (List.mem_of_getElem? (i := 1415) (by decide +kernel)) (by rfl)
set_option maxRecDepth 100000 in
theorem gw_1416 : (.selects RX11 yX11_entry yX11_entry : Cond) ∈ lw_gt := gt_of (List.mem_of_getElem? (i := 1416) (by decide +kernel)) (by rfl)
set_option maxRecDepth 100000 in
theorem gw_1417 : (.code yX11_entry cX11_entry 2 (some .boolean) : Cond) ∈ lw_gt := gt_of (List.mem_of_getElem? (i := 1417) rfl) (by rfl)
set_option maxRecDepth 100000 in
theorem gw_807 : (.methodLink RL 32 yX10_outer : Cond) ∈ lw_gt := gt_of (List.mem_of_getElem? (i := 807) (by decide +kernel)) (by rfl)
set_option maxRecDepth 100000 in
theorem gw_808 : (.instanceMethod yX10_outer : Cond) ∈ lw_gt := gt_of (List.mem_of_getElem? (i := 808) (by decide +kernel)) (by rfl)
set_option maxRecDepth 100000 in
theorem gw_809 : (.selects RX10 yX10_outer yX10_outer : Cond) ∈ lw_gt := gt_of (List.mem_of_getElem? (i := 809) (by decide +kernel)) (by rfl)
set_option maxRecDepth 100000 in
theorem gw_810 : (.code yX10_outer cX10_outer 3 (some .boolean) : Cond) ∈ lw_gt := gt_of (List.mem_of_getElem? (i := 810) rfl) (by rfl)
set_option maxRecDepth 100000 in
theorem gw_1418 : (.methodLink RL 36 yX11_outer : Cond) ∈ lw_gt := gt_of (List.mem_of_getElem? (i := 1418) (by decide +kernel)) (by rfl)
set_option maxRecDepth 100000 in
theorem gw_1419 : (.instanceMethod yX11_outer : Cond) ∈ lw_gt := gt_of (List.mem_of_getElem? (i := 1419) (by decide +kernel)) (by rfl)
set_option maxRecDepth 100000 in
theorem gw_1420 : (.selects RX11 yX11_outer yX11_outer : Cond) ∈ lw_gt := gt_of (List.mem_of_getElem? (i := 1420) (by decide +kernel)) (by rfl)
set_option maxRecDepth 100000 in
theorem gw_1421 : (.code yX11_outer cX11_outer 3 (some .boolean) : Cond) ∈ lw_gt := gt_of (List.mem_of_getElem? (i := 1421) rfl) (by rfl)
set_option maxRecDepth 100000 in
theorem gw_819 : (.methodLink RL 37 yX10_mark : Cond) ∈ lw_gt := gt_of (List.mem_of_getElem? (i := 819) (by decide +kernel)) (by rfl)
set_option maxRecDepth 100000 in
theorem gw_820 : (.instanceMethod yX10_mark : Cond) ∈ lw_gt := gt_of (List.mem_of_getElem? (i := 820) (by decide +kernel)) (by rfl)
set_option maxRecDepth 100000 in
theorem gw_821 : (.selects RX10 yX10_mark yX10_mark : Cond) ∈ lw_gt := gt_of (List.mem_of_getElem? (i := 821) (by decide +kernel)) (by rfl)
set_option maxRecDepth 100000 in
theorem gw_822 : (.code yX10_mark cX10_mark 5 (some .int) : Cond) ∈ lw_gt := gt_of (List.mem_of_getElem? (i := 822) rfl) (by rfl)
set_option maxRecDepth 100000 in
theorem gw_1422 : (.methodLink RL 41 yX11_mark : Cond) ∈ lw_gt := gt_of (List.mem_of_getElem? (i := 1422) (by decide +kernel)) (by rfl)
set_option maxRecDepth 100000 in
theorem gw_1423 : (.instanceMethod yX11_mark : Cond) ∈ lw_gt := gt_of (List.mem_of_getElem? (i := 1423) (by decide +kernel)) (by rfl)
set_option maxRecDepth 100000 in
theorem gw_1424 : (.selects RX11 yX11_mark yX11_mark : Cond) ∈ lw_gt := gt_of (List.mem_of_getElem? (i := 1424) (by decide +kernel)) (by rfl)
set_option maxRecDepth 100000 in
theorem gw_1425 : (.code yX11_mark cX11_mark 5 (some .int) : Cond) ∈ lw_gt := gt_of (List.mem_of_getElem? (i := 1425) rfl) (by rfl)
set_option maxRecDepth 100000 in
theorem gw_902 : (.methodLink RL 42 yX10_use : Cond) ∈ lw_gt := gt_of (List.mem_of_getElem? (i := 902) (by decide +kernel)) (by rfl)
set_option maxRecDepth 100000 in
theorem gw_903 : (.instanceMethod yX10_use : Cond) ∈ lw_gt := gt_of (List.mem_of_getElem? (i := 903) (by decide +kernel)) (by rfl)
set_option maxRecDepth 100000 in
theorem gw_904 : (.selects RX10 yX10_use yX10_use : Cond) ∈ lw_gt := gt_of (List.mem_of_getElem? (i := 904) (by decide +kernel)) (by rfl)
set_option maxRecDepth 100000 in
theorem gw_905 : (.code yX10_use cX10_use 4 (some .int) : Cond) ∈ lw_gt := gt_of (List.mem_of_getElem? (i := 905) rfl) (by rfl)
set_option maxRecDepth 100000 in
theorem gw_1475 : (.methodLink RL 46 yX11_use : Cond) ∈ lw_gt := gt_of (List.mem_of_getElem? (i := 1475) (by decide +kernel)) (by rfl)
set_option maxRecDepth 100000 in
theorem gw_1476 : (.instanceMethod yX11_use : Cond) ∈ lw_gt := gt_of (List.mem_of_getElem? (i := 1476) (by decide +kernel)) (by rfl)
set_option maxRecDepth 100000 in
theorem gw_1477 : (.selects RX11 yX11_use yX11_use : Cond) ∈ lw_gt := gt_of (List.mem_of_getElem? (i := 1477) (by decide +kernel)) (by rfl)
set_option maxRecDepth 100000 in
theorem gw_1478 : (.code yX11_use cX11_use 3 (some .int) : Cond) ∈ lw_gt := gt_of (List.mem_of_getElem? (i := 1478) rfl) (by rfl)
set_option maxRecDepth 100000 in
theorem gw_909 : (.methodLink RL 47 yX10_test : Cond) ∈ lw_gt := gt_of (List.mem_of_getElem? (i := 909) (by decide +kernel)) (by rfl)
set_option maxRecDepth 100000 in
theorem gw_910 : (.instanceMethod yX10_test : Cond) ∈ lw_gt := gt_of (List.mem_of_getElem? (i := 910) (by decide +kernel)) (by rfl)
set_option maxRecDepth 100000 in
theorem gw_911 : (.selects RX10 yX10_test yX10_test : Cond) ∈ lw_gt := gt_of (List.mem_of_getElem? (i := 911) (by decide +kernel)) (by rfl)
set_option maxRecDepth 100000 in
theorem gw_912 : (.code yX10_test cX10_test 4 (some .int) : Cond) ∈ lw_gt := gt_of (List.mem_of_getElem? (i := 912) rfl) (by rfl)
set_option maxRecDepth 100000 in
theorem gw_1486 : (.methodLink RL 50 yX11_test : Cond) ∈ lw_gt := gt_of (List.mem_of_getElem? (i := 1486) (by decide +kernel)) (by rfl)
set_option maxRecDepth 100000 in
theorem gw_1487 : (.instanceMethod yX11_test : Cond) ∈ lw_gt := gt_of (List.mem_of_getElem? (i := 1487) (by decide +kernel)) (by rfl)
set_option maxRecDepth 100000 in
theorem gw_1488 : (.selects RX11 yX11_test yX11_test : Cond) ∈ lw_gt := gt_of (List.mem_of_getElem? (i := 1488) (by decide +kernel)) (by rfl)
set_option maxRecDepth 100000 in
theorem gw_1489 : (.code yX11_test cX11_test 3 (some .int) : Cond) ∈ lw_gt := gt_of (List.mem_of_getElem? (i := 1489) rfl) (by rfl)
set_option maxRecDepth 100000 in
theorem gw_916 : (.methodLink RL 51 yX10_run : Cond) ∈ lw_gt := gt_of (List.mem_of_getElem? (i := 916) (by decide +kernel)) (by rfl)
set_option maxRecDepth 100000 in
theorem gw_917 : (.instanceMethod yX10_run : Cond) ∈ lw_gt := gt_of (List.mem_of_getElem? (i := 917) (by decide +kernel)) (by rfl)
set_option maxRecDepth 100000 in
theorem gw_918 : (.selects RX10 yX10_run yX10_run : Cond) ∈ lw_gt := gt_of (List.mem_of_getElem? (i := 918) (by decide +kernel)) (by rfl)
set_option maxRecDepth 100000 in
theorem gw_919 : (.code yX10_run cX10_run 4 (some .int) : Cond) ∈ lw_gt := gt_of (List.mem_of_getElem? (i := 919) rfl) (by rfl)
set_option maxRecDepth 100000 in
theorem gw_1490 : (.methodLink RL 54 yX11_run : Cond) ∈ lw_gt := gt_of (List.mem_of_getElem? (i := 1490) (by decide +kernel)) (by rfl)
set_option maxRecDepth 100000 in
theorem gw_1491 : (.instanceMethod yX11_run : Cond) ∈ lw_gt := gt_of (List.mem_of_getElem? (i := 1491) (by decide +kernel)) (by rfl)
set_option maxRecDepth 100000 in
theorem gw_1492 : (.selects RX11 yX11_run yX11_run : Cond) ∈ lw_gt := gt_of (List.mem_of_getElem? (i := 1492) (by decide +kernel)) (by rfl)
set_option maxRecDepth 100000 in
theorem gw_1493 : (.code yX11_run cX11_run 3 (some .int) : Cond) ∈ lw_gt := gt_of (List.mem_of_getElem? (i := 1493) rfl) (by rfl)
set_option maxRecDepth 100000 in
theorem gw_1000 : (.methodLink RL 55 yX10_ran : Cond) ∈ lw_gt := gt_of (List.mem_of_getElem? (i := 1000) (by decide +kernel)) (by rfl)
set_option maxRecDepth 100000 in
theorem gw_1001 : (.instanceMethod yX10_ran : Cond) ∈ lw_gt := gt_of (List.mem_of_getElem? (i := 1001) (by decide +kernel)) (by rfl)
set_option maxRecDepth 100000 in
theorem gw_1002 : (.selects RX10 yX10_ran yX10_ran : Cond) ∈ lw_gt := gt_of (List.mem_of_getElem? (i := 1002) (by decide +kernel)) (by rfl)
set_option maxRecDepth 100000 in
theorem gw_1003 : (.code yX10_ran cX10_ran 2 (some .int) : Cond) ∈ lw_gt := gt_of (List.mem_of_getElem? (i := 1003) rfl) (by rfl)
set_option maxRecDepth 100000 in
theorem gw_1534 : (.methodLink RL 58 yX11_ran : Cond) ∈ lw_gt := gt_of (List.mem_of_getElem? (i := 1534) (by decide +kernel)) (by rfl)
set_option maxRecDepth 100000 in
theorem gw_1535 : (.instanceMethod yX11_ran : Cond) ∈ lw_gt := gt_of (List.mem_of_getElem? (i := 1535) (by decide +kernel)) (by rfl)
set_option maxRecDepth 100000 in
theorem gw_1536 : (.selects RX11 yX11_ran yX11_ran : Cond) ∈ lw_gt := gt_of (List.mem_of_getElem? (i := 1536) (by decide +kernel)) (by rfl)
set_option maxRecDepth 100000 in
theorem gw_1537 : (.code yX11_ran cX11_ran 2 (some .int) : Cond) ∈ lw_gt := gt_of (List.mem_of_getElem? (i := 1537) rfl) (by rfl)
set_option maxRecDepth 100000 in
theorem gw_1004 : (.methodLink RL 59 yX10_tries : Cond) ∈ lw_gt := gt_of (List.mem_of_getElem? (i := 1004) (by decide +kernel)) (by rfl)
set_option maxRecDepth 100000 in
theorem gw_1005 : (.instanceMethod yX10_tries : Cond) ∈ lw_gt := gt_of (List.mem_of_getElem? (i := 1005) (by decide +kernel)) (by rfl)
set_option maxRecDepth 100000 in
theorem gw_1006 : (.selects RX10 yX10_tries yX10_tries : Cond) ∈ lw_gt := gt_of (List.mem_of_getElem? (i := 1006) (by decide +kernel)) (by rfl)
set_option maxRecDepth 100000 in
theorem gw_1007 : (.code yX10_tries cX10_tries 2 (some .int) : Cond) ∈ lw_gt := gt_of (List.mem_of_getElem? (i := 1007) rfl) (by rfl)
set_option maxRecDepth 100000 in
theorem gw_1538 : (.methodLink RL 62 yX11_tries : Cond) ∈ lw_gt := gt_of (List.mem_of_getElem? (i := 1538) (by decide +kernel)) (by rfl)
set_option maxRecDepth 100000 in
theorem gw_1539 : (.instanceMethod yX11_tries : Cond) ∈ lw_gt := gt_of (List.mem_of_getElem? (i := 1539) (by decide +kernel)) (by rfl)
set_option maxRecDepth 100000 in
theorem gw_1540 : (.selects RX11 yX11_tries yX11_tries : Cond) ∈ lw_gt := gt_of (List.mem_of_getElem? (i := 1540) (by decide +kernel)) (by rfl)
set_option maxRecDepth 100000 in
theorem gw_1541 : (.code yX11_tries cX11_tries 4 (some .int) : Cond) ∈ lw_gt := gt_of (List.mem_of_getElem? (i := 1541) rfl) (by rfl)
set_option maxRecDepth 100000 in
theorem gw_1029 : (.methodLink RL 63 yX10_price : Cond) ∈ lw_gt := gt_of (List.mem_of_getElem? (i := 1029) (by decide +kernel)) (by rfl)
set_option maxRecDepth 100000 in
theorem gw_1030 : (.instanceMethod yX10_price : Cond) ∈ lw_gt := gt_of (List.mem_of_getElem? (i := 1030) (by decide +kernel)) (by rfl)
set_option maxRecDepth 100000 in
theorem gw_1031 : (.selects RX10 yX10_price yX10_price : Cond) ∈ lw_gt := gt_of (List.mem_of_getElem? (i := 1031) (by decide +kernel)) (by rfl)
set_option maxRecDepth 100000 in
theorem gw_1032 : (.code yX10_price cX10_price 3 (some .boolean) : Cond) ∈ lw_gt := gt_of (List.mem_of_getElem? (i := 1032) rfl) (by rfl)
set_option maxRecDepth 100000 in
theorem gw_1542 : (.methodLink RL 66 yX11_price : Cond) ∈ lw_gt := gt_of (List.mem_of_getElem? (i := 1542) (by decide +kernel)) (by rfl)
set_option maxRecDepth 100000 in
theorem gw_1543 : (.instanceMethod yX11_price : Cond) ∈ lw_gt := gt_of (List.mem_of_getElem? (i := 1543) (by decide +kernel)) (by rfl)
set_option maxRecDepth 100000 in
theorem gw_1544 : (.selects RX11 yX11_price yX11_price : Cond) ∈ lw_gt := gt_of (List.mem_of_getElem? (i := 1544) (by decide +kernel)) (by rfl)
set_option maxRecDepth 100000 in
theorem gw_1545 : (.code yX11_price cX11_price 3 (some .boolean) : Cond) ∈ lw_gt := gt_of (List.mem_of_getElem? (i := 1545) rfl) (by rfl)
set_option maxRecDepth 100000 in
theorem gw_1033 : (.methodLink RL 67 yX10_mend : Cond) ∈ lw_gt := gt_of (List.mem_of_getElem? (i := 1033) (by decide +kernel)) (by rfl)
set_option maxRecDepth 100000 in
theorem gw_1034 : (.instanceMethod yX10_mend : Cond) ∈ lw_gt := gt_of (List.mem_of_getElem? (i := 1034) (by decide +kernel)) (by rfl)
set_option maxRecDepth 100000 in
theorem gw_1035 : (.selects RX10 yX10_mend yX10_mend : Cond) ∈ lw_gt := gt_of (List.mem_of_getElem? (i := 1035) (by decide +kernel)) (by rfl)
set_option maxRecDepth 100000 in
theorem gw_1036 : (.code yX10_mend cX10_mend 1 (some .int) : Cond) ∈ lw_gt := gt_of (List.mem_of_getElem? (i := 1036) rfl) (by rfl)
set_option maxRecDepth 100000 in
theorem gw_1546 : (.methodLink RL 71 yX11_mend : Cond) ∈ lw_gt := gt_of (List.mem_of_getElem? (i := 1546) (by decide +kernel)) (by rfl)
set_option maxRecDepth 100000 in
theorem gw_1547 : (.instanceMethod yX11_mend : Cond) ∈ lw_gt := gt_of (List.mem_of_getElem? (i := 1547) (by decide +kernel)) (by rfl)
set_option maxRecDepth 100000 in
theorem gw_1548 : (.selects RX11 yX11_mend yX11_mend : Cond) ∈ lw_gt := gt_of (List.mem_of_getElem? (i := 1548) (by decide +kernel)) (by rfl)
set_option maxRecDepth 100000 in
theorem gw_1549 : (.code yX11_mend cX11_mend 6 (some .int) : Cond) ∈ lw_gt := gt_of (List.mem_of_getElem? (i := 1549) rfl) (by rfl)
set_option maxRecDepth 100000 in
theorem gw_1080 : (.methodLink RL 72 yX10_mended : Cond) ∈ lw_gt := gt_of (List.mem_of_getElem? (i := 1080) (by decide +kernel)) (by rfl)
set_option maxRecDepth 100000 in
theorem gw_1081 : (.instanceMethod yX10_mended : Cond) ∈ lw_gt := gt_of (List.mem_of_getElem? (i := 1081) (by decide +kernel)) (by rfl)
set_option maxRecDepth 100000 in
theorem gw_1082 : (.selects RX10 yX10_mended yX10_mended : Cond) ∈ lw_gt := gt_of (List.mem_of_getElem? (i := 1082) (by decide +kernel)) (by rfl)
set_option maxRecDepth 100000 in
theorem gw_1083 : (.code yX10_mended cX10_mended 2 (some .int) : Cond) ∈ lw_gt := gt_of (List.mem_of_getElem? (i := 1083) rfl) (by rfl)
set_option maxRecDepth 100000 in
theorem gw_1557 : (.methodLink RL 75 yX11_mended : Cond) ∈ lw_gt := gt_of (List.mem_of_getElem? (i := 1557) (by decide +kernel)) (by rfl)
set_option maxRecDepth 100000 in
theorem gw_1558 : (.instanceMethod yX11_mended : Cond) ∈ lw_gt := gt_of (List.mem_of_getElem? (i := 1558) (by decide +kernel)) (by rfl)
set_option maxRecDepth 100000 in
theorem gw_1559 : (.selects RX11 yX11_mended yX11_mended : Cond) ∈ lw_gt := gt_of (List.mem_of_getElem? (i := 1559) (by decide +kernel)) (by rfl)
set_option maxRecDepth 100000 in
theorem gw_1560 : (.code yX11_mended cX11_mended 3 (some .int) : Cond) ∈ lw_gt := gt_of (List.mem_of_getElem? (i := 1560) rfl) (by rfl)
set_option maxRecDepth 100000 in
theorem gw_1084 : (.methodLink RL 76 yX10_count : Cond) ∈ lw_gt := gt_of (List.mem_of_getElem? (i := 1084) (by decide +kernel)) (by rfl)
set_option maxRecDepth 100000 in
theorem gw_1085 : (.instanceMethod yX10_count : Cond) ∈ lw_gt := gt_of (List.mem_of_getElem? (i := 1085) (by decide +kernel)) (by rfl)
set_option maxRecDepth 100000 in
theorem gw_1086 : (.selects RX10 yX10_count yX10_count : Cond) ∈ lw_gt := gt_of (List.mem_of_getElem? (i := 1086) (by decide +kernel)) (by rfl)
set_option maxRecDepth 100000 in
theorem gw_1087 : (.code yX10_count cX10_count 2 (some .int) : Cond) ∈ lw_gt := gt_of (List.mem_of_getElem? (i := 1087) rfl) (by rfl)
set_option maxRecDepth 100000 in
theorem gw_1561 : (.methodLink RL 79 yX11_count : Cond) ∈ lw_gt := gt_of (List.mem_of_getElem? (i := 1561) (by decide +kernel)) (by rfl)
set_option maxRecDepth 100000 in
theorem gw_1562 : (.instanceMethod yX11_count : Cond) ∈ lw_gt := gt_of (List.mem_of_getElem? (i := 1562) (by decide +kernel)) (by rfl)
set_option maxRecDepth 100000 in
theorem gw_1563 : (.selects RX11 yX11_count yX11_count : Cond) ∈ lw_gt := gt_of (List.mem_of_getElem? (i := 1563) (by decide +kernel)) (by rfl)
set_option maxRecDepth 100000 in
theorem gw_1564 : (.code yX11_count cX11_count 5 (some .int) : Cond) ∈ lw_gt := gt_of (List.mem_of_getElem? (i := 1564) rfl) (by rfl)
/-! the law's cases -/
def AL (s : State) : Nat → Prop := fun q => s.heap.size ≤ q
def LC (Y : Yx) (p : Program) (s : State) (m : MethodId) (meth : Method) (c : Code) (b L : Nat) (xs : Nat → Int32) (adC adM : Nat → Nat) : Prop := p.tables.exec = Jvm.exec ∧ c.code = cL_law ∧ meth.sig.returnType = ret ∧ c.maxLocals = 4 ∧ s.vm.findClass RL = some m.cls ∧ (∀ w ∈ lw_gt, w.before #[Value.ref b] s = true) ∧ va_X b L xs s s.heap ∧ b < s.heap.size ∧ meth.locks = false ∧ va_K Y.2.1 vwCl (kTy Y.2.2.1) s ∧ Amb Y.2.2.2.1 Y.2.2.2.2 (AL s) s ∧ (∀ j ∈ scC.1, ∀ k ∈ scM.1, adC j ≠ adM k) ∧ L ≤ 3072
def LH (Y : Yx) (s : State) (adC adM : Nat → Nat) (σc σm : St) (H : Heap) (locs : List Loc) : Prop := va_P Y.2.1 vwCl (wdS scC Y.2.2.1 adC σc) H ∧ va_P Y.2.1 vwCl (wdS scM Y.2.2.1 adM σm) H ∧ va_D (AL s) (wdS scC Y.2.2.1 adC σc) ∧ va_D (AL s) (wdS scM Y.2.2.1 adM σm) ∧ va_S (AL s) s.heap H locs
theorem vin {k n L : Nat} (hk : k + 6 ≤ L) (hL : L ≤ 3072) (hn : n ≤ 5) : vp_in (nI k + nI n) L := by
  rw [nI_add]
  exact ib_in (ibk (by omega) (by omega))
set_option maxHeartbeats 4000000 in
set_option maxRecDepth 100000 in
theorem lc_feed {p : Program} {e : Env} {s : State} {m : MethodId} {below : List Frame} {meth : Method} {c : Code} {Y : Yx} {b L : Nat} {xs : Nat → Int32} {adC adM : Nat → Nat} (C : LC Y p s m meth c b L xs adC adM) {σc σm : St} (hI : LI σc σm) {H : Heap} {locs : List Loc} (hH : LH Y s adC adM σc σm H locs) {ls : Array Slot} {k : Nat} (hk : k + 6 ≤ L) (hl : lv_has ls 4 [(3, .int (nI k)), (2, .ref (adM 0)), (1, .ref (adC 0)), (0, .ref b)]) (kk : ∀ (σc' σm' : St) (H' : Heap) (locs' : List Loc), LI σc' σm' → LH Y s adC adM σc' σm' H' locs' → W p Y.1 e room_1 s m #[Value.ref b] below meth c H' locs' 84 30598 (lw_Z below #[Value.ref b] s) (F0 m 553 ls [])) : W p Y.1 e room_1 s m #[Value.ref b] below meth c H locs 84 30598 (lw_Z below #[Value.ref b] s) (F0 m 108 ls []) := by
  obtain ⟨hx, hb, hr, hml, hown, hts, hX, hbl, hlk, hK, hM, hap, hL⟩ := C
  obtain ⟨hP, hP2, hD, hD2, hS⟩ := hH
  have hA : ∀ q, s.heap.size ≤ q → AL s q := fun _ h => h
  have hbA : ¬ AL s b := Nat.not_le.mpr hbl
  have hap2 : ∀ j ∈ scM.1, ∀ k ∈ scC.1, adM j ≠ adC k := fun j hj k hk e => hap k hk j hj e.symm
  obtain ⟨rc, σc', rm, σm', ec, em, hI', -⟩ := k_feed (a1 := (xs (nI k + 1).toNatClampNeg)) (a2 := (xs (nI k + 2).toNatClampNeg)) (a3 := (xs (nI k + 3).toNatClampNeg)) (a4 := (xs (nI k + 4).toNatClampNeg)) (a5 := (xs (nI k + 5).toNatClampNeg)) hI
  refine lv_aload_n hx hb dL_law_108 rfl (lv_at hl 2 rfl) ?_
  refine lv_aload_n hx hb dL_law_109 rfl (lv_at hl 3 rfl) ?_
  refine lv_iload_n hx hb dL_law_110 rfl (lv_at hl 0 rfl) ?_
  refine lv_iconst (v := 1) hx hb dL_law_111 (by decide) ?_
  refine lv_iadd hx hb dL_law_112 ?_
  refine va_sld hx hb hX hbl hbA hS (vin (n := 1) hk hL (by decide)) dL_law_113 ?_
  refine lv_aload_n hx hb dL_law_114 rfl (lv_at hl 3 rfl) ?_
  refine lv_iload_n hx hb dL_law_115 rfl (lv_at hl 0 rfl) ?_
  refine lv_iconst (v := 2) hx hb dL_law_116 (by decide) ?_
  refine lv_iadd hx hb dL_law_117 ?_
  refine va_sld hx hb hX hbl hbA hS (vin (n := 2) hk hL (by decide)) dL_law_118 ?_
  refine lv_aload_n hx hb dL_law_119 rfl (lv_at hl 3 rfl) ?_
  refine lv_iload_n hx hb dL_law_120 rfl (lv_at hl 0 rfl) ?_
  refine lv_iconst (v := 3) hx hb dL_law_121 (by decide) ?_
  refine lv_iadd hx hb dL_law_122 ?_
  refine va_sld hx hb hX hbl hbA hS (vin (n := 3) hk hL (by decide)) dL_law_123 ?_
  refine lv_aload_n hx hb dL_law_124 rfl (lv_at hl 3 rfl) ?_
  refine lv_iload_n hx hb dL_law_125 rfl (lv_at hl 0 rfl) ?_
  refine lv_iconst (v := 4) hx hb dL_law_126 (by decide) ?_
  refine lv_iadd hx hb dL_law_127 ?_
  refine va_sld hx hb hX hbl hbA hS (vin (n := 4) hk hL (by decide)) dL_law_128 ?_
  refine lv_aload_n hx hb dL_law_129 rfl (lv_at hl 3 rfl) ?_
  refine lv_iload_n hx hb dL_law_130 rfl (lv_at hl 0 rfl) ?_
  refine lv_iconst (v := 5) hx hb dL_law_131 (by decide) ?_
  refine lv_iadd hx hb dL_law_132 ?_
  refine va_sld hx hb hX hbl hbA hS (vin (n := 5) hk hL (by decide)) dL_law_133 ?_
  refine l_callV (Y := Y) (sc := scC) (sc2 := scM) (ad := adC) (ad2 := adM) (σ := σc) (σ2 := σm) (o := 0) (ci := 9) (n := 5) (As := [.int (xs (nI k + 1).toNatClampNeg), .int (xs (nI k + 2).toNatClampNeg), .int (xs (nI k + 3).toNatClampNeg), .int (xs (nI k + 4).toNatClampNeg), .int (xs (nI k + 5).toNatClampNeg)]) (rest := []) hx hb hml hown hts hK hA hM ⟨gw_528, gw_529, gw_530, gw_107, gw_531⟩ (by decide +kernel) ⟨Nat.le_of_ble_eq_true rfl, Nat.le_of_ble_eq_true rfl⟩ (by decide) rfl rfl rfl (c_x10_feed ec) rfl rfl (Nat.le_of_ble_eq_true rfl) dL_law_134 ⟨Nat.le_of_ble_eq_true rfl, Nat.le_of_ble_eq_true rfl⟩ hP hP2 hD hap hS hl (fun H locs hP hP2 hD hS => ?_)
  refine lv_pop hx hb dL_law_137 rfl ?_
  refine lv_aload_n hx hb dL_law_138 rfl (lv_at hl 1 rfl) ?_
  refine lv_aload_n hx hb dL_law_139 rfl (lv_at hl 3 rfl) ?_
  refine lv_iload_n hx hb dL_law_140 rfl (lv_at hl 0 rfl) ?_
  refine lv_iconst (v := 1) hx hb dL_law_141 (by decide) ?_
  refine lv_iadd hx hb dL_law_142 ?_
  refine va_sld hx hb hX hbl hbA hS (vin (n := 1) hk hL (by decide)) dL_law_143 ?_
  refine lv_aload_n hx hb dL_law_144 rfl (lv_at hl 3 rfl) ?_
  refine lv_iload_n hx hb dL_law_145 rfl (lv_at hl 0 rfl) ?_
  refine lv_iconst (v := 2) hx hb dL_law_146 (by decide) ?_
  refine lv_iadd hx hb dL_law_147 ?_
  refine va_sld hx hb hX hbl hbA hS (vin (n := 2) hk hL (by decide)) dL_law_148 ?_
  refine lv_aload_n hx hb dL_law_149 rfl (lv_at hl 3 rfl) ?_
  refine lv_iload_n hx hb dL_law_150 rfl (lv_at hl 0 rfl) ?_
  refine lv_iconst (v := 3) hx hb dL_law_151 (by decide) ?_
  refine lv_iadd hx hb dL_law_152 ?_
  refine va_sld hx hb hX hbl hbA hS (vin (n := 3) hk hL (by decide)) dL_law_153 ?_
  refine lv_aload_n hx hb dL_law_154 rfl (lv_at hl 3 rfl) ?_
  refine lv_iload_n hx hb dL_law_155 rfl (lv_at hl 0 rfl) ?_
  refine lv_iconst (v := 4) hx hb dL_law_156 (by decide) ?_
  refine lv_iadd hx hb dL_law_157 ?_
  refine va_sld hx hb hX hbl hbA hS (vin (n := 4) hk hL (by decide)) dL_law_158 ?_
  refine lv_aload_n hx hb dL_law_159 rfl (lv_at hl 3 rfl) ?_
  refine lv_iload_n hx hb dL_law_160 rfl (lv_at hl 0 rfl) ?_
  refine lv_iconst (v := 5) hx hb dL_law_161 (by decide) ?_
  refine lv_iadd hx hb dL_law_162 ?_
  refine va_sld hx hb hX hbl hbA hS (vin (n := 5) hk hL (by decide)) dL_law_163 ?_
  refine l_callV (Y := Y) (sc := scM) (sc2 := scC) (ad := adM) (ad2 := adC) (σ := σm) (σ2 := σc') (o := 0) (ci := 10) (n := 5) (As := [.int (xs (nI k + 1).toNatClampNeg), .int (xs (nI k + 2).toNatClampNeg), .int (xs (nI k + 3).toNatClampNeg), .int (xs (nI k + 4).toNatClampNeg), .int (xs (nI k + 5).toNatClampNeg)]) (rest := []) hx hb hml hown hts hK hA hM ⟨gw_1304, gw_1305, gw_1306, gw_117, gw_1307⟩ (by decide +kernel) ⟨Nat.le_of_ble_eq_true rfl, Nat.le_of_ble_eq_true rfl⟩ (by decide) rfl rfl rfl (c_m_feed em) rfl rfl (Nat.le_of_ble_eq_true rfl) dL_law_164 ⟨Nat.le_of_ble_eq_true rfl, Nat.le_of_ble_eq_true rfl⟩ hP2 hP hD2 hap2 hS hl (fun H locs hP2 hP hD2 hS => ?_)
  refine lv_pop hx hb dL_law_167 rfl ?_
  refine lv_goto (tgt := 553) hx hb dL_law_168 (by decide) ?_
  exact kk σc' σm' _ _ hI' ⟨hP, hP2, hD, hD2, hS⟩
set_option maxHeartbeats 4000000 in
set_option maxRecDepth 100000 in
theorem lc_text {p : Program} {e : Env} {s : State} {m : MethodId} {below : List Frame} {meth : Method} {c : Code} {Y : Yx} {b L : Nat} {xs : Nat → Int32} {adC adM : Nat → Nat} (C : LC Y p s m meth c b L xs adC adM) {σc σm : St} (hI : LI σc σm) {H : Heap} {locs : List Loc} (hH : LH Y s adC adM σc σm H locs) {ls : Array Slot} {k : Nat} (hk : k + 6 ≤ L) (hl : lv_has ls 4 [(3, .int (nI k)), (2, .ref (adM 0)), (1, .ref (adC 0)), (0, .ref b)]) (kk : ∀ (σc' σm' : St) (H' : Heap) (locs' : List Loc), LI σc' σm' → LH Y s adC adM σc' σm' H' locs' → W p Y.1 e room_1 s m #[Value.ref b] below meth c H' locs' 84 30598 (lw_Z below #[Value.ref b] s) (F0 m 553 ls [])) : W p Y.1 e room_1 s m #[Value.ref b] below meth c H locs 84 30598 (lw_Z below #[Value.ref b] s) (F0 m 171 ls []) := by
  obtain ⟨hx, hb, hr, hml, hown, hts, hX, hbl, hlk, hK, hM, hap, hL⟩ := C
  obtain ⟨hP, hP2, hD, hD2, hS⟩ := hH
  have hA : ∀ q, s.heap.size ≤ q → AL s q := fun _ h => h
  have hbA : ¬ AL s b := Nat.not_le.mpr hbl
  have hap2 : ∀ j ∈ scM.1, ∀ k ∈ scC.1, adM j ≠ adC k := fun j hj k hk e => hap k hk j hj e.symm
  obtain ⟨rc, σc', rm, σm', ec, em, hI', -⟩ := k_text (a1 := (xs (nI k + 1).toNatClampNeg)) hI
  refine lv_aload_n hx hb dL_law_171 rfl (lv_at hl 2 rfl) ?_
  refine lv_aload_n hx hb dL_law_172 rfl (lv_at hl 3 rfl) ?_
  refine lv_iload_n hx hb dL_law_173 rfl (lv_at hl 0 rfl) ?_
  refine lv_iconst (v := 1) hx hb dL_law_174 (by decide) ?_
  refine lv_iadd hx hb dL_law_175 ?_
  refine va_sld hx hb hX hbl hbA hS (vin (n := 1) hk hL (by decide)) dL_law_176 ?_
  refine l_callV (Y := Y) (sc := scC) (sc2 := scM) (ad := adC) (ad2 := adM) (σ := σc) (σ2 := σm) (o := 0) (ci := 9) (n := 1) (As := [.int (xs (nI k + 1).toNatClampNeg)]) (rest := []) hx hb hml hown hts hK hA hM ⟨gw_536, gw_537, gw_538, gw_107, gw_539⟩ (by decide +kernel) ⟨Nat.le_of_ble_eq_true rfl, Nat.le_of_ble_eq_true rfl⟩ (by decide) rfl rfl rfl (c_x10_text ec) rfl rfl (Nat.le_of_ble_eq_true rfl) dL_law_177 ⟨Nat.le_of_ble_eq_true rfl, Nat.le_of_ble_eq_true rfl⟩ hP hP2 hD hap hS hl (fun H locs hP hP2 hD hS => ?_)
  refine lv_pop hx hb dL_law_180 rfl ?_
  refine lv_aload_n hx hb dL_law_181 rfl (lv_at hl 1 rfl) ?_
  refine lv_aload_n hx hb dL_law_182 rfl (lv_at hl 3 rfl) ?_
  refine lv_iload_n hx hb dL_law_183 rfl (lv_at hl 0 rfl) ?_
  refine lv_iconst (v := 1) hx hb dL_law_184 (by decide) ?_
  refine lv_iadd hx hb dL_law_185 ?_
  refine va_sld hx hb hX hbl hbA hS (vin (n := 1) hk hL (by decide)) dL_law_186 ?_
  refine l_callV (Y := Y) (sc := scM) (sc2 := scC) (ad := adM) (ad2 := adC) (σ := σm) (σ2 := σc') (o := 0) (ci := 10) (n := 1) (As := [.int (xs (nI k + 1).toNatClampNeg)]) (rest := []) hx hb hml hown hts hK hA hM ⟨gw_1308, gw_1309, gw_1310, gw_117, gw_1311⟩ (by decide +kernel) ⟨Nat.le_of_ble_eq_true rfl, Nat.le_of_ble_eq_true rfl⟩ (by decide) rfl rfl rfl (c_m_text em) rfl rfl (Nat.le_of_ble_eq_true rfl) dL_law_187 ⟨Nat.le_of_ble_eq_true rfl, Nat.le_of_ble_eq_true rfl⟩ hP2 hP hD2 hap2 hS hl (fun H locs hP2 hP hD2 hS => ?_)
  refine lv_pop hx hb dL_law_190 rfl ?_
  refine lv_goto (tgt := 553) hx hb dL_law_191 (by decide) ?_
  exact kk σc' σm' _ _ hI' ⟨hP, hP2, hD, hD2, hS⟩
set_option maxHeartbeats 4000000 in
set_option maxRecDepth 100000 in
theorem lc_fault {p : Program} {e : Env} {s : State} {m : MethodId} {below : List Frame} {meth : Method} {c : Code} {Y : Yx} {b L : Nat} {xs : Nat → Int32} {adC adM : Nat → Nat} (C : LC Y p s m meth c b L xs adC adM) {σc σm : St} (hI : LI σc σm) {H : Heap} {locs : List Loc} (hH : LH Y s adC adM σc σm H locs) {ls : Array Slot} {k : Nat} (hk : k + 6 ≤ L) (hl : lv_has ls 4 [(3, .int (nI k)), (2, .ref (adM 0)), (1, .ref (adC 0)), (0, .ref b)]) (kk : ∀ (σc' σm' : St) (H' : Heap) (locs' : List Loc), LI σc' σm' → LH Y s adC adM σc' σm' H' locs' → W p Y.1 e room_1 s m #[Value.ref b] below meth c H' locs' 84 30598 (lw_Z below #[Value.ref b] s) (F0 m 553 ls [])) : W p Y.1 e room_1 s m #[Value.ref b] below meth c H locs 84 30598 (lw_Z below #[Value.ref b] s) (F0 m 194 ls []) := by
  obtain ⟨hx, hb, hr, hml, hown, hts, hX, hbl, hlk, hK, hM, hap, hL⟩ := C
  obtain ⟨hP, hP2, hD, hD2, hS⟩ := hH
  have hA : ∀ q, s.heap.size ≤ q → AL s q := fun _ h => h
  have hbA : ¬ AL s b := Nat.not_le.mpr hbl
  have hap2 : ∀ j ∈ scM.1, ∀ k ∈ scC.1, adM j ≠ adC k := fun j hj k hk e => hap k hk j hj e.symm
  obtain ⟨rc, σc', rm, σm', ec, em, hI', -⟩ := k_fault (a1 := (xs (nI k + 1).toNatClampNeg)) hI
  refine lv_aload_n hx hb dL_law_194 rfl (lv_at hl 2 rfl) ?_
  refine lv_aload_n hx hb dL_law_195 rfl (lv_at hl 3 rfl) ?_
  refine lv_iload_n hx hb dL_law_196 rfl (lv_at hl 0 rfl) ?_
  refine lv_iconst (v := 1) hx hb dL_law_197 (by decide) ?_
  refine lv_iadd hx hb dL_law_198 ?_
  refine va_sld hx hb hX hbl hbA hS (vin (n := 1) hk hL (by decide)) dL_law_199 ?_
  refine l_callV (Y := Y) (sc := scC) (sc2 := scM) (ad := adC) (ad2 := adM) (σ := σc) (σ2 := σm) (o := 0) (ci := 9) (n := 1) (As := [.int (xs (nI k + 1).toNatClampNeg)]) (rest := []) hx hb hml hown hts hK hA hM ⟨gw_798, gw_799, gw_800, gw_107, gw_801⟩ (by decide +kernel) ⟨Nat.le_of_ble_eq_true rfl, Nat.le_of_ble_eq_true rfl⟩ (by decide) rfl rfl rfl (c_x10_fault ec) rfl rfl (Nat.le_of_ble_eq_true rfl) dL_law_200 ⟨Nat.le_of_ble_eq_true rfl, Nat.le_of_ble_eq_true rfl⟩ hP hP2 hD hap hS hl (fun H locs hP hP2 hD hS => ?_)
  refine lv_pop hx hb dL_law_203 rfl ?_
  refine lv_aload_n hx hb dL_law_204 rfl (lv_at hl 1 rfl) ?_
  refine lv_aload_n hx hb dL_law_205 rfl (lv_at hl 3 rfl) ?_
  refine lv_iload_n hx hb dL_law_206 rfl (lv_at hl 0 rfl) ?_
  refine lv_iconst (v := 1) hx hb dL_law_207 (by decide) ?_
  refine lv_iadd hx hb dL_law_208 ?_
  refine va_sld hx hb hX hbl hbA hS (vin (n := 1) hk hL (by decide)) dL_law_209 ?_
  refine l_callV (Y := Y) (sc := scM) (sc2 := scC) (ad := adM) (ad2 := adC) (σ := σm) (σ2 := σc') (o := 0) (ci := 10) (n := 1) (As := [.int (xs (nI k + 1).toNatClampNeg)]) (rest := []) hx hb hml hown hts hK hA hM ⟨gw_1410, gw_1411, gw_1412, gw_117, gw_1413⟩ (by decide +kernel) ⟨Nat.le_of_ble_eq_true rfl, Nat.le_of_ble_eq_true rfl⟩ (by decide) rfl rfl rfl (c_m_fault em) rfl rfl (Nat.le_of_ble_eq_true rfl) dL_law_210 ⟨Nat.le_of_ble_eq_true rfl, Nat.le_of_ble_eq_true rfl⟩ hP2 hP hD2 hap2 hS hl (fun H locs hP2 hP hD2 hS => ?_)
  refine lv_pop hx hb dL_law_213 rfl ?_
  refine lv_goto (tgt := 553) hx hb dL_law_214 (by decide) ?_
  exact kk σc' σm' _ _ hI' ⟨hP, hP2, hD, hD2, hS⟩
set_option maxHeartbeats 4000000 in
set_option maxRecDepth 100000 in
theorem lc_entry {p : Program} {e : Env} {s : State} {m : MethodId} {below : List Frame} {meth : Method} {c : Code} {Y : Yx} {b L : Nat} {xs : Nat → Int32} {adC adM : Nat → Nat} (C : LC Y p s m meth c b L xs adC adM) {σc σm : St} (hI : LI σc σm) {H : Heap} {locs : List Loc} (hH : LH Y s adC adM σc σm H locs) {ls : Array Slot} {k : Nat} (hk : k + 6 ≤ L) (hl : lv_has ls 4 [(3, .int (nI k)), (2, .ref (adM 0)), (1, .ref (adC 0)), (0, .ref b)]) (kk : ∀ (σc' σm' : St) (H' : Heap) (locs' : List Loc), LI σc' σm' → LH Y s adC adM σc' σm' H' locs' → W p Y.1 e room_1 s m #[Value.ref b] below meth c H' locs' 84 30598 (lw_Z below #[Value.ref b] s) (F0 m 553 ls [])) : W p Y.1 e room_1 s m #[Value.ref b] below meth c H locs 84 30598 (lw_Z below #[Value.ref b] s) (F0 m 217 ls []) := by
  obtain ⟨hx, hb, hr, hml, hown, hts, hX, hbl, hlk, hK, hM, hap, hL⟩ := C
  obtain ⟨hP, hP2, hD, hD2, hS⟩ := hH
  have hA : ∀ q, s.heap.size ≤ q → AL s q := fun _ h => h
  have hbA : ¬ AL s b := Nat.not_le.mpr hbl
  have hap2 : ∀ j ∈ scM.1, ∀ k ∈ scC.1, adM j ≠ adC k := fun j hj k hk e => hap k hk j hj e.symm
  obtain ⟨rc, σc', rm, σm', ec, em, hI', -⟩ := k_entry (a1 := (xs (nI k + 1).toNatClampNeg)) hI
  refine lv_aload_n hx hb dL_law_217 rfl (lv_at hl 2 rfl) ?_
  refine lv_aload_n hx hb dL_law_218 rfl (lv_at hl 3 rfl) ?_
  refine lv_iload_n hx hb dL_law_219 rfl (lv_at hl 0 rfl) ?_
  refine lv_iconst (v := 1) hx hb dL_law_220 (by decide) ?_
  refine lv_iadd hx hb dL_law_221 ?_
  refine va_sld hx hb hX hbl hbA hS (vin (n := 1) hk hL (by decide)) dL_law_222 ?_
  refine l_callV (Y := Y) (sc := scC) (sc2 := scM) (ad := adC) (ad2 := adM) (σ := σc) (σ2 := σm) (o := 0) (ci := 9) (n := 1) (As := [.int (xs (nI k + 1).toNatClampNeg)]) (rest := []) hx hb hml hown hts hK hA hM ⟨gw_802, gw_803, gw_804, gw_107, gw_805⟩ (by decide +kernel) ⟨Nat.le_of_ble_eq_true rfl, Nat.le_of_ble_eq_true rfl⟩ (by decide) rfl rfl rfl (c_x10_entry ec) rfl rfl (Nat.le_of_ble_eq_true rfl) dL_law_223 ⟨Nat.le_of_ble_eq_true rfl, Nat.le_of_ble_eq_true rfl⟩ hP hP2 hD hap hS hl (fun H locs hP hP2 hD hS => ?_)
  refine lv_pop hx hb dL_law_226 rfl ?_
  refine lv_aload_n hx hb dL_law_227 rfl (lv_at hl 1 rfl) ?_
  refine lv_aload_n hx hb dL_law_228 rfl (lv_at hl 3 rfl) ?_
  refine lv_iload_n hx hb dL_law_229 rfl (lv_at hl 0 rfl) ?_
  refine lv_iconst (v := 1) hx hb dL_law_230 (by decide) ?_
  refine lv_iadd hx hb dL_law_231 ?_
  refine va_sld hx hb hX hbl hbA hS (vin (n := 1) hk hL (by decide)) dL_law_232 ?_
  refine l_callV (Y := Y) (sc := scM) (sc2 := scC) (ad := adM) (ad2 := adC) (σ := σm) (σ2 := σc') (o := 0) (ci := 10) (n := 1) (As := [.int (xs (nI k + 1).toNatClampNeg)]) (rest := []) hx hb hml hown hts hK hA hM ⟨gw_1414, gw_1415, gw_1416, gw_117, gw_1417⟩ (by decide +kernel) ⟨Nat.le_of_ble_eq_true rfl, Nat.le_of_ble_eq_true rfl⟩ (by decide) rfl rfl rfl (c_m_entry em) rfl rfl (Nat.le_of_ble_eq_true rfl) dL_law_233 ⟨Nat.le_of_ble_eq_true rfl, Nat.le_of_ble_eq_true rfl⟩ hP2 hP hD2 hap2 hS hl (fun H locs hP2 hP hD2 hS => ?_)
  refine lv_pop hx hb dL_law_236 rfl ?_
  refine lv_goto (tgt := 553) hx hb dL_law_237 (by decide) ?_
  exact kk σc' σm' _ _ hI' ⟨hP, hP2, hD, hD2, hS⟩
set_option maxHeartbeats 4000000 in
set_option maxRecDepth 100000 in
theorem lc_outer {p : Program} {e : Env} {s : State} {m : MethodId} {below : List Frame} {meth : Method} {c : Code} {Y : Yx} {b L : Nat} {xs : Nat → Int32} {adC adM : Nat → Nat} (C : LC Y p s m meth c b L xs adC adM) {σc σm : St} (hI : LI σc σm) {H : Heap} {locs : List Loc} (hH : LH Y s adC adM σc σm H locs) {ls : Array Slot} {k : Nat} (hk : k + 6 ≤ L) (hl : lv_has ls 4 [(3, .int (nI k)), (2, .ref (adM 0)), (1, .ref (adC 0)), (0, .ref b)]) (kk : ∀ (σc' σm' : St) (H' : Heap) (locs' : List Loc), LI σc' σm' → LH Y s adC adM σc' σm' H' locs' → W p Y.1 e room_1 s m #[Value.ref b] below meth c H' locs' 84 30598 (lw_Z below #[Value.ref b] s) (F0 m 553 ls [])) : W p Y.1 e room_1 s m #[Value.ref b] below meth c H locs 84 30598 (lw_Z below #[Value.ref b] s) (F0 m 240 ls []) := by
  obtain ⟨hx, hb, hr, hml, hown, hts, hX, hbl, hlk, hK, hM, hap, hL⟩ := C
  obtain ⟨hP, hP2, hD, hD2, hS⟩ := hH
  have hA : ∀ q, s.heap.size ≤ q → AL s q := fun _ h => h
  have hbA : ¬ AL s b := Nat.not_le.mpr hbl
  have hap2 : ∀ j ∈ scM.1, ∀ k ∈ scC.1, adM j ≠ adC k := fun j hj k hk e => hap k hk j hj e.symm
  obtain ⟨rc, σc', rm, σm', ec, em, hI', -⟩ := k_outer (a1 := (xs (nI k + 1).toNatClampNeg)) (a2 := (xs (nI k + 2).toNatClampNeg)) hI
  refine lv_aload_n hx hb dL_law_240 rfl (lv_at hl 2 rfl) ?_
  refine lv_aload_n hx hb dL_law_241 rfl (lv_at hl 3 rfl) ?_
  refine lv_iload_n hx hb dL_law_242 rfl (lv_at hl 0 rfl) ?_
  refine lv_iconst (v := 1) hx hb dL_law_243 (by decide) ?_
  refine lv_iadd hx hb dL_law_244 ?_
  refine va_sld hx hb hX hbl hbA hS (vin (n := 1) hk hL (by decide)) dL_law_245 ?_
  refine lv_aload_n hx hb dL_law_246 rfl (lv_at hl 3 rfl) ?_
  refine lv_iload_n hx hb dL_law_247 rfl (lv_at hl 0 rfl) ?_
  refine lv_iconst (v := 2) hx hb dL_law_248 (by decide) ?_
  refine lv_iadd hx hb dL_law_249 ?_
  refine va_sld hx hb hX hbl hbA hS (vin (n := 2) hk hL (by decide)) dL_law_250 ?_
  refine l_callV (Y := Y) (sc := scC) (sc2 := scM) (ad := adC) (ad2 := adM) (σ := σc) (σ2 := σm) (o := 0) (ci := 9) (n := 2) (As := [.int (xs (nI k + 1).toNatClampNeg), .int (xs (nI k + 2).toNatClampNeg)]) (rest := []) hx hb hml hown hts hK hA hM ⟨gw_807, gw_808, gw_809, gw_107, gw_810⟩ (by decide +kernel) ⟨Nat.le_of_ble_eq_true rfl, Nat.le_of_ble_eq_true rfl⟩ (by decide) rfl rfl rfl (c_x10_outer ec) rfl rfl (Nat.le_of_ble_eq_true rfl) dL_law_251 ⟨Nat.le_of_ble_eq_true rfl, Nat.le_of_ble_eq_true rfl⟩ hP hP2 hD hap hS hl (fun H locs hP hP2 hD hS => ?_)
  refine lv_pop hx hb dL_law_254 rfl ?_
  refine lv_aload_n hx hb dL_law_255 rfl (lv_at hl 1 rfl) ?_
  refine lv_aload_n hx hb dL_law_256 rfl (lv_at hl 3 rfl) ?_
  refine lv_iload_n hx hb dL_law_257 rfl (lv_at hl 0 rfl) ?_
  refine lv_iconst (v := 1) hx hb dL_law_258 (by decide) ?_
  refine lv_iadd hx hb dL_law_259 ?_
  refine va_sld hx hb hX hbl hbA hS (vin (n := 1) hk hL (by decide)) dL_law_260 ?_
  refine lv_aload_n hx hb dL_law_261 rfl (lv_at hl 3 rfl) ?_
  refine lv_iload_n hx hb dL_law_262 rfl (lv_at hl 0 rfl) ?_
  refine lv_iconst (v := 2) hx hb dL_law_263 (by decide) ?_
  refine lv_iadd hx hb dL_law_264 ?_
  refine va_sld hx hb hX hbl hbA hS (vin (n := 2) hk hL (by decide)) dL_law_265 ?_
  refine l_callV (Y := Y) (sc := scM) (sc2 := scC) (ad := adM) (ad2 := adC) (σ := σm) (σ2 := σc') (o := 0) (ci := 10) (n := 2) (As := [.int (xs (nI k + 1).toNatClampNeg), .int (xs (nI k + 2).toNatClampNeg)]) (rest := []) hx hb hml hown hts hK hA hM ⟨gw_1418, gw_1419, gw_1420, gw_117, gw_1421⟩ (by decide +kernel) ⟨Nat.le_of_ble_eq_true rfl, Nat.le_of_ble_eq_true rfl⟩ (by decide) rfl rfl rfl (c_m_outer em) rfl rfl (Nat.le_of_ble_eq_true rfl) dL_law_266 ⟨Nat.le_of_ble_eq_true rfl, Nat.le_of_ble_eq_true rfl⟩ hP2 hP hD2 hap2 hS hl (fun H locs hP2 hP hD2 hS => ?_)
  refine lv_pop hx hb dL_law_269 rfl ?_
  refine lv_goto (tgt := 553) hx hb dL_law_270 (by decide) ?_
  exact kk σc' σm' _ _ hI' ⟨hP, hP2, hD, hD2, hS⟩
set_option maxHeartbeats 4000000 in
set_option maxRecDepth 100000 in
theorem lc_mark {p : Program} {e : Env} {s : State} {m : MethodId} {below : List Frame} {meth : Method} {c : Code} {Y : Yx} {b L : Nat} {xs : Nat → Int32} {adC adM : Nat → Nat} (C : LC Y p s m meth c b L xs adC adM) {σc σm : St} (hI : LI σc σm) {H : Heap} {locs : List Loc} (hH : LH Y s adC adM σc σm H locs) {ls : Array Slot} {k : Nat} (hk : k + 6 ≤ L) (hl : lv_has ls 4 [(3, .int (nI k)), (2, .ref (adM 0)), (1, .ref (adC 0)), (0, .ref b)]) (kk : ∀ (σc' σm' : St) (H' : Heap) (locs' : List Loc), LI σc' σm' → LH Y s adC adM σc' σm' H' locs' → W p Y.1 e room_1 s m #[Value.ref b] below meth c H' locs' 84 30598 (lw_Z below #[Value.ref b] s) (F0 m 553 ls [])) : W p Y.1 e room_1 s m #[Value.ref b] below meth c H locs 84 30598 (lw_Z below #[Value.ref b] s) (F0 m 273 ls []) := by
  obtain ⟨hx, hb, hr, hml, hown, hts, hX, hbl, hlk, hK, hM, hap, hL⟩ := C
  obtain ⟨hP, hP2, hD, hD2, hS⟩ := hH
  have hA : ∀ q, s.heap.size ≤ q → AL s q := fun _ h => h
  have hbA : ¬ AL s b := Nat.not_le.mpr hbl
  have hap2 : ∀ j ∈ scM.1, ∀ k ∈ scC.1, adM j ≠ adC k := fun j hj k hk e => hap k hk j hj e.symm
  obtain ⟨rc, σc', rm, σm', ec, em, hI', -⟩ := k_mark (a1 := (xs (nI k + 1).toNatClampNeg)) (a2 := (xs (nI k + 2).toNatClampNeg)) (a3 := (xs (nI k + 3).toNatClampNeg)) hI
  refine lv_aload_n hx hb dL_law_273 rfl (lv_at hl 2 rfl) ?_
  refine lv_aload_n hx hb dL_law_274 rfl (lv_at hl 3 rfl) ?_
  refine lv_iload_n hx hb dL_law_275 rfl (lv_at hl 0 rfl) ?_
  refine lv_iconst (v := 1) hx hb dL_law_276 (by decide) ?_
  refine lv_iadd hx hb dL_law_277 ?_
  refine va_sld hx hb hX hbl hbA hS (vin (n := 1) hk hL (by decide)) dL_law_278 ?_
  refine lv_aload_n hx hb dL_law_279 rfl (lv_at hl 3 rfl) ?_
  refine lv_iload_n hx hb dL_law_280 rfl (lv_at hl 0 rfl) ?_
  refine lv_iconst (v := 2) hx hb dL_law_281 (by decide) ?_
  refine lv_iadd hx hb dL_law_282 ?_
  refine va_sld hx hb hX hbl hbA hS (vin (n := 2) hk hL (by decide)) dL_law_283 ?_
  refine lv_aload_n hx hb dL_law_284 rfl (lv_at hl 3 rfl) ?_
  refine lv_iload_n hx hb dL_law_285 rfl (lv_at hl 0 rfl) ?_
  refine lv_iconst (v := 3) hx hb dL_law_286 (by decide) ?_
  refine lv_iadd hx hb dL_law_287 ?_
  refine va_sld hx hb hX hbl hbA hS (vin (n := 3) hk hL (by decide)) dL_law_288 ?_
  refine l_callV (Y := Y) (sc := scC) (sc2 := scM) (ad := adC) (ad2 := adM) (σ := σc) (σ2 := σm) (o := 0) (ci := 9) (n := 3) (As := [.int (xs (nI k + 1).toNatClampNeg), .int (xs (nI k + 2).toNatClampNeg), .int (xs (nI k + 3).toNatClampNeg)]) (rest := []) hx hb hml hown hts hK hA hM ⟨gw_819, gw_820, gw_821, gw_107, gw_822⟩ (by decide +kernel) ⟨Nat.le_of_ble_eq_true rfl, Nat.le_of_ble_eq_true rfl⟩ (by decide) rfl rfl rfl (c_x10_mark ec) rfl rfl (Nat.le_of_ble_eq_true rfl) dL_law_289 ⟨Nat.le_of_ble_eq_true rfl, Nat.le_of_ble_eq_true rfl⟩ hP hP2 hD hap hS hl (fun H locs hP hP2 hD hS => ?_)
  refine lv_pop hx hb dL_law_292 rfl ?_
  refine lv_aload_n hx hb dL_law_293 rfl (lv_at hl 1 rfl) ?_
  refine lv_aload_n hx hb dL_law_294 rfl (lv_at hl 3 rfl) ?_
  refine lv_iload_n hx hb dL_law_295 rfl (lv_at hl 0 rfl) ?_
  refine lv_iconst (v := 1) hx hb dL_law_296 (by decide) ?_
  refine lv_iadd hx hb dL_law_297 ?_
  refine va_sld hx hb hX hbl hbA hS (vin (n := 1) hk hL (by decide)) dL_law_298 ?_
  refine lv_aload_n hx hb dL_law_299 rfl (lv_at hl 3 rfl) ?_
  refine lv_iload_n hx hb dL_law_300 rfl (lv_at hl 0 rfl) ?_
  refine lv_iconst (v := 2) hx hb dL_law_301 (by decide) ?_
  refine lv_iadd hx hb dL_law_302 ?_
  refine va_sld hx hb hX hbl hbA hS (vin (n := 2) hk hL (by decide)) dL_law_303 ?_
  refine lv_aload_n hx hb dL_law_304 rfl (lv_at hl 3 rfl) ?_
  refine lv_iload_n hx hb dL_law_305 rfl (lv_at hl 0 rfl) ?_
  refine lv_iconst (v := 3) hx hb dL_law_306 (by decide) ?_
  refine lv_iadd hx hb dL_law_307 ?_
  refine va_sld hx hb hX hbl hbA hS (vin (n := 3) hk hL (by decide)) dL_law_308 ?_
  refine l_callV (Y := Y) (sc := scM) (sc2 := scC) (ad := adM) (ad2 := adC) (σ := σm) (σ2 := σc') (o := 0) (ci := 10) (n := 3) (As := [.int (xs (nI k + 1).toNatClampNeg), .int (xs (nI k + 2).toNatClampNeg), .int (xs (nI k + 3).toNatClampNeg)]) (rest := []) hx hb hml hown hts hK hA hM ⟨gw_1422, gw_1423, gw_1424, gw_117, gw_1425⟩ (by decide +kernel) ⟨Nat.le_of_ble_eq_true rfl, Nat.le_of_ble_eq_true rfl⟩ (by decide) rfl rfl rfl (c_m_mark em) rfl rfl (Nat.le_of_ble_eq_true rfl) dL_law_309 ⟨Nat.le_of_ble_eq_true rfl, Nat.le_of_ble_eq_true rfl⟩ hP2 hP hD2 hap2 hS hl (fun H locs hP2 hP hD2 hS => ?_)
  refine lv_pop hx hb dL_law_312 rfl ?_
  refine lv_goto (tgt := 553) hx hb dL_law_313 (by decide) ?_
  exact kk σc' σm' _ _ hI' ⟨hP, hP2, hD, hD2, hS⟩
set_option maxHeartbeats 4000000 in
set_option maxRecDepth 100000 in
theorem lc_use {p : Program} {e : Env} {s : State} {m : MethodId} {below : List Frame} {meth : Method} {c : Code} {Y : Yx} {b L : Nat} {xs : Nat → Int32} {adC adM : Nat → Nat} (C : LC Y p s m meth c b L xs adC adM) {σc σm : St} (hI : LI σc σm) {H : Heap} {locs : List Loc} (hH : LH Y s adC adM σc σm H locs) {ls : Array Slot} {k : Nat} (hk : k + 6 ≤ L) (hl : lv_has ls 4 [(3, .int (nI k)), (2, .ref (adM 0)), (1, .ref (adC 0)), (0, .ref b)]) (kk : ∀ (σc' σm' : St) (H' : Heap) (locs' : List Loc), LI σc' σm' → LH Y s adC adM σc' σm' H' locs' → W p Y.1 e room_1 s m #[Value.ref b] below meth c H' locs' 84 30598 (lw_Z below #[Value.ref b] s) (F0 m 553 ls [])) : W p Y.1 e room_1 s m #[Value.ref b] below meth c H locs 84 30598 (lw_Z below #[Value.ref b] s) (F0 m 316 ls []) := by
  obtain ⟨hx, hb, hr, hml, hown, hts, hX, hbl, hlk, hK, hM, hap, hL⟩ := C
  obtain ⟨hP, hP2, hD, hD2, hS⟩ := hH
  have hA : ∀ q, s.heap.size ≤ q → AL s q := fun _ h => h
  have hbA : ¬ AL s b := Nat.not_le.mpr hbl
  have hap2 : ∀ j ∈ scM.1, ∀ k ∈ scC.1, adM j ≠ adC k := fun j hj k hk e => hap k hk j hj e.symm
  obtain ⟨rc, σc', rm, σm', ec, em, hI', -⟩ := k_use (a1 := (xs (nI k + 1).toNatClampNeg)) (a2 := (xs (nI k + 2).toNatClampNeg)) hI
  refine lv_aload_n hx hb dL_law_316 rfl (lv_at hl 2 rfl) ?_
  refine lv_aload_n hx hb dL_law_317 rfl (lv_at hl 3 rfl) ?_
  refine lv_iload_n hx hb dL_law_318 rfl (lv_at hl 0 rfl) ?_
  refine lv_iconst (v := 1) hx hb dL_law_319 (by decide) ?_
  refine lv_iadd hx hb dL_law_320 ?_
  refine va_sld hx hb hX hbl hbA hS (vin (n := 1) hk hL (by decide)) dL_law_321 ?_
  refine lv_aload_n hx hb dL_law_322 rfl (lv_at hl 3 rfl) ?_
  refine lv_iload_n hx hb dL_law_323 rfl (lv_at hl 0 rfl) ?_
  refine lv_iconst (v := 2) hx hb dL_law_324 (by decide) ?_
  refine lv_iadd hx hb dL_law_325 ?_
  refine va_sld hx hb hX hbl hbA hS (vin (n := 2) hk hL (by decide)) dL_law_326 ?_
  refine l_callV (Y := Y) (sc := scC) (sc2 := scM) (ad := adC) (ad2 := adM) (σ := σc) (σ2 := σm) (o := 0) (ci := 9) (n := 2) (As := [.int (xs (nI k + 1).toNatClampNeg), .int (xs (nI k + 2).toNatClampNeg)]) (rest := []) hx hb hml hown hts hK hA hM ⟨gw_902, gw_903, gw_904, gw_107, gw_905⟩ (by decide +kernel) ⟨Nat.le_of_ble_eq_true rfl, Nat.le_of_ble_eq_true rfl⟩ (by decide) rfl rfl rfl (c_x10_use ec) rfl rfl (Nat.le_of_ble_eq_true rfl) dL_law_327 ⟨Nat.le_of_ble_eq_true rfl, Nat.le_of_ble_eq_true rfl⟩ hP hP2 hD hap hS hl (fun H locs hP hP2 hD hS => ?_)
  refine lv_pop hx hb dL_law_330 rfl ?_
  refine lv_aload_n hx hb dL_law_331 rfl (lv_at hl 1 rfl) ?_
  refine lv_aload_n hx hb dL_law_332 rfl (lv_at hl 3 rfl) ?_
  refine lv_iload_n hx hb dL_law_333 rfl (lv_at hl 0 rfl) ?_
  refine lv_iconst (v := 1) hx hb dL_law_334 (by decide) ?_
  refine lv_iadd hx hb dL_law_335 ?_
  refine va_sld hx hb hX hbl hbA hS (vin (n := 1) hk hL (by decide)) dL_law_336 ?_
  refine lv_aload_n hx hb dL_law_337 rfl (lv_at hl 3 rfl) ?_
  refine lv_iload_n hx hb dL_law_338 rfl (lv_at hl 0 rfl) ?_
  refine lv_iconst (v := 2) hx hb dL_law_339 (by decide) ?_
  refine lv_iadd hx hb dL_law_340 ?_
  refine va_sld hx hb hX hbl hbA hS (vin (n := 2) hk hL (by decide)) dL_law_341 ?_
  refine l_callV (Y := Y) (sc := scM) (sc2 := scC) (ad := adM) (ad2 := adC) (σ := σm) (σ2 := σc') (o := 0) (ci := 10) (n := 2) (As := [.int (xs (nI k + 1).toNatClampNeg), .int (xs (nI k + 2).toNatClampNeg)]) (rest := []) hx hb hml hown hts hK hA hM ⟨gw_1475, gw_1476, gw_1477, gw_117, gw_1478⟩ (by decide +kernel) ⟨Nat.le_of_ble_eq_true rfl, Nat.le_of_ble_eq_true rfl⟩ (by decide) rfl rfl rfl (c_m_use em) rfl rfl (Nat.le_of_ble_eq_true rfl) dL_law_342 ⟨Nat.le_of_ble_eq_true rfl, Nat.le_of_ble_eq_true rfl⟩ hP2 hP hD2 hap2 hS hl (fun H locs hP2 hP hD2 hS => ?_)
  refine lv_pop hx hb dL_law_345 rfl ?_
  refine lv_goto (tgt := 553) hx hb dL_law_346 (by decide) ?_
  exact kk σc' σm' _ _ hI' ⟨hP, hP2, hD, hD2, hS⟩
set_option maxHeartbeats 4000000 in
set_option maxRecDepth 100000 in
theorem lc_test {p : Program} {e : Env} {s : State} {m : MethodId} {below : List Frame} {meth : Method} {c : Code} {Y : Yx} {b L : Nat} {xs : Nat → Int32} {adC adM : Nat → Nat} (C : LC Y p s m meth c b L xs adC adM) {σc σm : St} (hI : LI σc σm) {H : Heap} {locs : List Loc} (hH : LH Y s adC adM σc σm H locs) {ls : Array Slot} {k : Nat} (hk : k + 6 ≤ L) (hl : lv_has ls 4 [(3, .int (nI k)), (2, .ref (adM 0)), (1, .ref (adC 0)), (0, .ref b)]) (kk : ∀ (σc' σm' : St) (H' : Heap) (locs' : List Loc), LI σc' σm' → LH Y s adC adM σc' σm' H' locs' → W p Y.1 e room_1 s m #[Value.ref b] below meth c H' locs' 84 30598 (lw_Z below #[Value.ref b] s) (F0 m 553 ls [])) : W p Y.1 e room_1 s m #[Value.ref b] below meth c H locs 84 30598 (lw_Z below #[Value.ref b] s) (F0 m 349 ls []) := by
  obtain ⟨hx, hb, hr, hml, hown, hts, hX, hbl, hlk, hK, hM, hap, hL⟩ := C
  obtain ⟨hP, hP2, hD, hD2, hS⟩ := hH
  have hA : ∀ q, s.heap.size ≤ q → AL s q := fun _ h => h
  have hbA : ¬ AL s b := Nat.not_le.mpr hbl
  have hap2 : ∀ j ∈ scM.1, ∀ k ∈ scC.1, adM j ≠ adC k := fun j hj k hk e => hap k hk j hj e.symm
  obtain ⟨rc, σc', rm, σm', ec, em, hI', -⟩ := k_test (a1 := (xs (nI k + 1).toNatClampNeg)) (a2 := (xs (nI k + 2).toNatClampNeg)) hI
  refine lv_aload_n hx hb dL_law_349 rfl (lv_at hl 2 rfl) ?_
  refine lv_aload_n hx hb dL_law_350 rfl (lv_at hl 3 rfl) ?_
  refine lv_iload_n hx hb dL_law_351 rfl (lv_at hl 0 rfl) ?_
  refine lv_iconst (v := 1) hx hb dL_law_352 (by decide) ?_
  refine lv_iadd hx hb dL_law_353 ?_
  refine va_sld hx hb hX hbl hbA hS (vin (n := 1) hk hL (by decide)) dL_law_354 ?_
  refine lv_aload_n hx hb dL_law_355 rfl (lv_at hl 3 rfl) ?_
  refine lv_iload_n hx hb dL_law_356 rfl (lv_at hl 0 rfl) ?_
  refine lv_iconst (v := 2) hx hb dL_law_357 (by decide) ?_
  refine lv_iadd hx hb dL_law_358 ?_
  refine va_sld hx hb hX hbl hbA hS (vin (n := 2) hk hL (by decide)) dL_law_359 ?_
  refine l_callV (Y := Y) (sc := scC) (sc2 := scM) (ad := adC) (ad2 := adM) (σ := σc) (σ2 := σm) (o := 0) (ci := 9) (n := 2) (As := [.int (xs (nI k + 1).toNatClampNeg), .int (xs (nI k + 2).toNatClampNeg)]) (rest := []) hx hb hml hown hts hK hA hM ⟨gw_909, gw_910, gw_911, gw_107, gw_912⟩ (by decide +kernel) ⟨Nat.le_of_ble_eq_true rfl, Nat.le_of_ble_eq_true rfl⟩ (by decide) rfl rfl rfl (c_x10_test ec) rfl rfl (Nat.le_of_ble_eq_true rfl) dL_law_360 ⟨Nat.le_of_ble_eq_true rfl, Nat.le_of_ble_eq_true rfl⟩ hP hP2 hD hap hS hl (fun H locs hP hP2 hD hS => ?_)
  refine lv_pop hx hb dL_law_363 rfl ?_
  refine lv_aload_n hx hb dL_law_364 rfl (lv_at hl 1 rfl) ?_
  refine lv_aload_n hx hb dL_law_365 rfl (lv_at hl 3 rfl) ?_
  refine lv_iload_n hx hb dL_law_366 rfl (lv_at hl 0 rfl) ?_
  refine lv_iconst (v := 1) hx hb dL_law_367 (by decide) ?_
  refine lv_iadd hx hb dL_law_368 ?_
  refine va_sld hx hb hX hbl hbA hS (vin (n := 1) hk hL (by decide)) dL_law_369 ?_
  refine lv_aload_n hx hb dL_law_370 rfl (lv_at hl 3 rfl) ?_
  refine lv_iload_n hx hb dL_law_371 rfl (lv_at hl 0 rfl) ?_
  refine lv_iconst (v := 2) hx hb dL_law_372 (by decide) ?_
  refine lv_iadd hx hb dL_law_373 ?_
  refine va_sld hx hb hX hbl hbA hS (vin (n := 2) hk hL (by decide)) dL_law_374 ?_
  refine l_callV (Y := Y) (sc := scM) (sc2 := scC) (ad := adM) (ad2 := adC) (σ := σm) (σ2 := σc') (o := 0) (ci := 10) (n := 2) (As := [.int (xs (nI k + 1).toNatClampNeg), .int (xs (nI k + 2).toNatClampNeg)]) (rest := []) hx hb hml hown hts hK hA hM ⟨gw_1486, gw_1487, gw_1488, gw_117, gw_1489⟩ (by decide +kernel) ⟨Nat.le_of_ble_eq_true rfl, Nat.le_of_ble_eq_true rfl⟩ (by decide) rfl rfl rfl (c_m_test em) rfl rfl (Nat.le_of_ble_eq_true rfl) dL_law_375 ⟨Nat.le_of_ble_eq_true rfl, Nat.le_of_ble_eq_true rfl⟩ hP2 hP hD2 hap2 hS hl (fun H locs hP2 hP hD2 hS => ?_)
  refine lv_pop hx hb dL_law_378 rfl ?_
  refine lv_goto (tgt := 553) hx hb dL_law_379 (by decide) ?_
  exact kk σc' σm' _ _ hI' ⟨hP, hP2, hD, hD2, hS⟩
set_option maxHeartbeats 4000000 in
set_option maxRecDepth 100000 in
theorem lc_run {p : Program} {e : Env} {s : State} {m : MethodId} {below : List Frame} {meth : Method} {c : Code} {Y : Yx} {b L : Nat} {xs : Nat → Int32} {adC adM : Nat → Nat} (C : LC Y p s m meth c b L xs adC adM) {σc σm : St} (hI : LI σc σm) {H : Heap} {locs : List Loc} (hH : LH Y s adC adM σc σm H locs) {ls : Array Slot} {k : Nat} (hk : k + 6 ≤ L) (hl : lv_has ls 4 [(3, .int (nI k)), (2, .ref (adM 0)), (1, .ref (adC 0)), (0, .ref b)]) (kk : ∀ (σc' σm' : St) (H' : Heap) (locs' : List Loc), LI σc' σm' → LH Y s adC adM σc' σm' H' locs' → W p Y.1 e room_1 s m #[Value.ref b] below meth c H' locs' 84 30598 (lw_Z below #[Value.ref b] s) (F0 m 553 ls [])) : W p Y.1 e room_1 s m #[Value.ref b] below meth c H locs 84 30598 (lw_Z below #[Value.ref b] s) (F0 m 382 ls []) := by
  obtain ⟨hx, hb, hr, hml, hown, hts, hX, hbl, hlk, hK, hM, hap, hL⟩ := C
  obtain ⟨hP, hP2, hD, hD2, hS⟩ := hH
  have hA : ∀ q, s.heap.size ≤ q → AL s q := fun _ h => h
  have hbA : ¬ AL s b := Nat.not_le.mpr hbl
  have hap2 : ∀ j ∈ scM.1, ∀ k ∈ scC.1, adM j ≠ adC k := fun j hj k hk e => hap k hk j hj e.symm
  obtain ⟨rc, σc', rm, σm', ec, em, hI', -⟩ := k_run (a1 := (xs (nI k + 1).toNatClampNeg)) (a2 := (xs (nI k + 2).toNatClampNeg)) hI
  refine lv_aload_n hx hb dL_law_382 rfl (lv_at hl 2 rfl) ?_
  refine lv_aload_n hx hb dL_law_383 rfl (lv_at hl 3 rfl) ?_
  refine lv_iload_n hx hb dL_law_384 rfl (lv_at hl 0 rfl) ?_
  refine lv_iconst (v := 1) hx hb dL_law_385 (by decide) ?_
  refine lv_iadd hx hb dL_law_386 ?_
  refine va_sld hx hb hX hbl hbA hS (vin (n := 1) hk hL (by decide)) dL_law_387 ?_
  refine lv_aload_n hx hb dL_law_388 rfl (lv_at hl 3 rfl) ?_
  refine lv_iload_n hx hb dL_law_389 rfl (lv_at hl 0 rfl) ?_
  refine lv_iconst (v := 2) hx hb dL_law_390 (by decide) ?_
  refine lv_iadd hx hb dL_law_391 ?_
  refine va_sld hx hb hX hbl hbA hS (vin (n := 2) hk hL (by decide)) dL_law_392 ?_
  refine l_callV (Y := Y) (sc := scC) (sc2 := scM) (ad := adC) (ad2 := adM) (σ := σc) (σ2 := σm) (o := 0) (ci := 9) (n := 2) (As := [.int (xs (nI k + 1).toNatClampNeg), .int (xs (nI k + 2).toNatClampNeg)]) (rest := []) hx hb hml hown hts hK hA hM ⟨gw_916, gw_917, gw_918, gw_107, gw_919⟩ (by decide +kernel) ⟨Nat.le_of_ble_eq_true rfl, Nat.le_of_ble_eq_true rfl⟩ (by decide) rfl rfl rfl (c_x10_run ec) rfl rfl (Nat.le_of_ble_eq_true rfl) dL_law_393 ⟨Nat.le_of_ble_eq_true rfl, Nat.le_of_ble_eq_true rfl⟩ hP hP2 hD hap hS hl (fun H locs hP hP2 hD hS => ?_)
  refine lv_pop hx hb dL_law_396 rfl ?_
  refine lv_aload_n hx hb dL_law_397 rfl (lv_at hl 1 rfl) ?_
  refine lv_aload_n hx hb dL_law_398 rfl (lv_at hl 3 rfl) ?_
  refine lv_iload_n hx hb dL_law_399 rfl (lv_at hl 0 rfl) ?_
  refine lv_iconst (v := 1) hx hb dL_law_400 (by decide) ?_
  refine lv_iadd hx hb dL_law_401 ?_
  refine va_sld hx hb hX hbl hbA hS (vin (n := 1) hk hL (by decide)) dL_law_402 ?_
  refine lv_aload_n hx hb dL_law_403 rfl (lv_at hl 3 rfl) ?_
  refine lv_iload_n hx hb dL_law_404 rfl (lv_at hl 0 rfl) ?_
  refine lv_iconst (v := 2) hx hb dL_law_405 (by decide) ?_
  refine lv_iadd hx hb dL_law_406 ?_
  refine va_sld hx hb hX hbl hbA hS (vin (n := 2) hk hL (by decide)) dL_law_407 ?_
  refine l_callV (Y := Y) (sc := scM) (sc2 := scC) (ad := adM) (ad2 := adC) (σ := σm) (σ2 := σc') (o := 0) (ci := 10) (n := 2) (As := [.int (xs (nI k + 1).toNatClampNeg), .int (xs (nI k + 2).toNatClampNeg)]) (rest := []) hx hb hml hown hts hK hA hM ⟨gw_1490, gw_1491, gw_1492, gw_117, gw_1493⟩ (by decide +kernel) ⟨Nat.le_of_ble_eq_true rfl, Nat.le_of_ble_eq_true rfl⟩ (by decide) rfl rfl rfl (c_m_run em) rfl rfl (Nat.le_of_ble_eq_true rfl) dL_law_408 ⟨Nat.le_of_ble_eq_true rfl, Nat.le_of_ble_eq_true rfl⟩ hP2 hP hD2 hap2 hS hl (fun H locs hP2 hP hD2 hS => ?_)
  refine lv_pop hx hb dL_law_411 rfl ?_
  refine lv_goto (tgt := 553) hx hb dL_law_412 (by decide) ?_
  exact kk σc' σm' _ _ hI' ⟨hP, hP2, hD, hD2, hS⟩
set_option maxHeartbeats 4000000 in
set_option maxRecDepth 100000 in
theorem lc_ran {p : Program} {e : Env} {s : State} {m : MethodId} {below : List Frame} {meth : Method} {c : Code} {Y : Yx} {b L : Nat} {xs : Nat → Int32} {adC adM : Nat → Nat} (C : LC Y p s m meth c b L xs adC adM) {σc σm : St} (hI : LI σc σm) {H : Heap} {locs : List Loc} (hH : LH Y s adC adM σc σm H locs) {ls : Array Slot} {k : Nat} (hk : k + 6 ≤ L) (hl : lv_has ls 4 [(3, .int (nI k)), (2, .ref (adM 0)), (1, .ref (adC 0)), (0, .ref b)]) (kk : ∀ (σc' σm' : St) (H' : Heap) (locs' : List Loc), LI σc' σm' → LH Y s adC adM σc' σm' H' locs' → W p Y.1 e room_1 s m #[Value.ref b] below meth c H' locs' 84 30598 (lw_Z below #[Value.ref b] s) (F0 m 553 ls [])) : W p Y.1 e room_1 s m #[Value.ref b] below meth c H locs 84 30598 (lw_Z below #[Value.ref b] s) (F0 m 415 ls []) := by
  obtain ⟨hx, hb, hr, hml, hown, hts, hX, hbl, hlk, hK, hM, hap, hL⟩ := C
  obtain ⟨hP, hP2, hD, hD2, hS⟩ := hH
  have hA : ∀ q, s.heap.size ≤ q → AL s q := fun _ h => h
  have hbA : ¬ AL s b := Nat.not_le.mpr hbl
  have hap2 : ∀ j ∈ scM.1, ∀ k ∈ scC.1, adM j ≠ adC k := fun j hj k hk e => hap k hk j hj e.symm
  obtain ⟨rc, σc', rm, σm', ec, em, hI', -⟩ := k_ran (a1 := (xs (nI k + 1).toNatClampNeg)) hI
  refine lv_aload_n hx hb dL_law_415 rfl (lv_at hl 2 rfl) ?_
  refine lv_aload_n hx hb dL_law_416 rfl (lv_at hl 3 rfl) ?_
  refine lv_iload_n hx hb dL_law_417 rfl (lv_at hl 0 rfl) ?_
  refine lv_iconst (v := 1) hx hb dL_law_418 (by decide) ?_
  refine lv_iadd hx hb dL_law_419 ?_
  refine va_sld hx hb hX hbl hbA hS (vin (n := 1) hk hL (by decide)) dL_law_420 ?_
  refine l_callV (Y := Y) (sc := scC) (sc2 := scM) (ad := adC) (ad2 := adM) (σ := σc) (σ2 := σm) (o := 0) (ci := 9) (n := 1) (As := [.int (xs (nI k + 1).toNatClampNeg)]) (rest := []) hx hb hml hown hts hK hA hM ⟨gw_1000, gw_1001, gw_1002, gw_107, gw_1003⟩ (by decide +kernel) ⟨Nat.le_of_ble_eq_true rfl, Nat.le_of_ble_eq_true rfl⟩ (by decide) rfl rfl rfl (c_x10_ran ec) rfl rfl (Nat.le_of_ble_eq_true rfl) dL_law_421 ⟨Nat.le_of_ble_eq_true rfl, Nat.le_of_ble_eq_true rfl⟩ hP hP2 hD hap hS hl (fun H locs hP hP2 hD hS => ?_)
  refine lv_pop hx hb dL_law_424 rfl ?_
  refine lv_aload_n hx hb dL_law_425 rfl (lv_at hl 1 rfl) ?_
  refine lv_aload_n hx hb dL_law_426 rfl (lv_at hl 3 rfl) ?_
  refine lv_iload_n hx hb dL_law_427 rfl (lv_at hl 0 rfl) ?_
  refine lv_iconst (v := 1) hx hb dL_law_428 (by decide) ?_
  refine lv_iadd hx hb dL_law_429 ?_
  refine va_sld hx hb hX hbl hbA hS (vin (n := 1) hk hL (by decide)) dL_law_430 ?_
  refine l_callV (Y := Y) (sc := scM) (sc2 := scC) (ad := adM) (ad2 := adC) (σ := σm) (σ2 := σc') (o := 0) (ci := 10) (n := 1) (As := [.int (xs (nI k + 1).toNatClampNeg)]) (rest := []) hx hb hml hown hts hK hA hM ⟨gw_1534, gw_1535, gw_1536, gw_117, gw_1537⟩ (by decide +kernel) ⟨Nat.le_of_ble_eq_true rfl, Nat.le_of_ble_eq_true rfl⟩ (by decide) rfl rfl rfl (c_m_ran em) rfl rfl (Nat.le_of_ble_eq_true rfl) dL_law_431 ⟨Nat.le_of_ble_eq_true rfl, Nat.le_of_ble_eq_true rfl⟩ hP2 hP hD2 hap2 hS hl (fun H locs hP2 hP hD2 hS => ?_)
  refine lv_pop hx hb dL_law_434 rfl ?_
  refine lv_goto (tgt := 553) hx hb dL_law_435 (by decide) ?_
  exact kk σc' σm' _ _ hI' ⟨hP, hP2, hD, hD2, hS⟩
set_option maxHeartbeats 4000000 in
set_option maxRecDepth 100000 in
theorem lc_tries {p : Program} {e : Env} {s : State} {m : MethodId} {below : List Frame} {meth : Method} {c : Code} {Y : Yx} {b L : Nat} {xs : Nat → Int32} {adC adM : Nat → Nat} (C : LC Y p s m meth c b L xs adC adM) {σc σm : St} (hI : LI σc σm) {H : Heap} {locs : List Loc} (hH : LH Y s adC adM σc σm H locs) {ls : Array Slot} {k : Nat} (hk : k + 6 ≤ L) (hl : lv_has ls 4 [(3, .int (nI k)), (2, .ref (adM 0)), (1, .ref (adC 0)), (0, .ref b)]) (kk : ∀ (σc' σm' : St) (H' : Heap) (locs' : List Loc), LI σc' σm' → LH Y s adC adM σc' σm' H' locs' → W p Y.1 e room_1 s m #[Value.ref b] below meth c H' locs' 84 30598 (lw_Z below #[Value.ref b] s) (F0 m 553 ls [])) : W p Y.1 e room_1 s m #[Value.ref b] below meth c H locs 84 30598 (lw_Z below #[Value.ref b] s) (F0 m 438 ls []) := by
  obtain ⟨hx, hb, hr, hml, hown, hts, hX, hbl, hlk, hK, hM, hap, hL⟩ := C
  obtain ⟨hP, hP2, hD, hD2, hS⟩ := hH
  have hA : ∀ q, s.heap.size ≤ q → AL s q := fun _ h => h
  have hbA : ¬ AL s b := Nat.not_le.mpr hbl
  have hap2 : ∀ j ∈ scM.1, ∀ k ∈ scC.1, adM j ≠ adC k := fun j hj k hk e => hap k hk j hj e.symm
  obtain ⟨rc, σc', rm, σm', ec, em, hI', hrr⟩ := k_tries (a1 := (xs (nI k + 1).toNatClampNeg)) hI
  refine lv_aload_n hx hb dL_law_438 rfl (lv_at hl 2 rfl) ?_
  refine lv_aload_n hx hb dL_law_439 rfl (lv_at hl 3 rfl) ?_
  refine lv_iload_n hx hb dL_law_440 rfl (lv_at hl 0 rfl) ?_
  refine lv_iconst (v := 1) hx hb dL_law_441 (by decide) ?_
  refine lv_iadd hx hb dL_law_442 ?_
  refine va_sld hx hb hX hbl hbA hS (vin (n := 1) hk hL (by decide)) dL_law_443 ?_
  refine l_callV (Y := Y) (sc := scC) (sc2 := scM) (ad := adC) (ad2 := adM) (σ := σc) (σ2 := σm) (o := 0) (ci := 9) (n := 1) (As := [.int (xs (nI k + 1).toNatClampNeg)]) (rest := []) hx hb hml hown hts hK hA hM ⟨gw_1004, gw_1005, gw_1006, gw_107, gw_1007⟩ (by decide +kernel) ⟨Nat.le_of_ble_eq_true rfl, Nat.le_of_ble_eq_true rfl⟩ (by decide) rfl rfl rfl (c_x10_tries ec) rfl rfl (Nat.le_of_ble_eq_true rfl) dL_law_444 ⟨Nat.le_of_ble_eq_true rfl, Nat.le_of_ble_eq_true rfl⟩ hP hP2 hD hap hS hl (fun H locs hP hP2 hD hS => ?_)
  refine lv_aload_n hx hb dL_law_447 rfl (lv_at hl 1 rfl) ?_
  refine lv_aload_n hx hb dL_law_448 rfl (lv_at hl 3 rfl) ?_
  refine lv_iload_n hx hb dL_law_449 rfl (lv_at hl 0 rfl) ?_
  refine lv_iconst (v := 1) hx hb dL_law_450 (by decide) ?_
  refine lv_iadd hx hb dL_law_451 ?_
  refine va_sld hx hb hX hbl hbA hS (vin (n := 1) hk hL (by decide)) dL_law_452 ?_
  refine l_callV (Y := Y) (sc := scM) (sc2 := scC) (ad := adM) (ad2 := adC) (σ := σm) (σ2 := σc') (o := 0) (ci := 10) (n := 1) (As := [.int (xs (nI k + 1).toNatClampNeg)]) (rest := [.int rc]) hx hb hml hown hts hK hA hM ⟨gw_1538, gw_1539, gw_1540, gw_117, gw_1541⟩ (by decide +kernel) ⟨Nat.le_of_ble_eq_true rfl, Nat.le_of_ble_eq_true rfl⟩ (by decide) rfl rfl rfl (c_m_tries em) rfl rfl (Nat.le_of_ble_eq_true rfl) dL_law_453 ⟨Nat.le_of_ble_eq_true rfl, Nat.le_of_ble_eq_true rfl⟩ hP2 hP hD2 hap2 hS hl (fun H locs hP2 hP hD2 hS => ?_)
  exact lv_icmp_eq (tgt := 553) hx hb dL_law_456 (by decide) (fun _ => kk σc' σm' _ _ hI' ⟨hP, hP2, hD, hD2, hS⟩) (fun h => absurd hrr h)
set_option maxHeartbeats 4000000 in
set_option maxRecDepth 100000 in
theorem lc_price {p : Program} {e : Env} {s : State} {m : MethodId} {below : List Frame} {meth : Method} {c : Code} {Y : Yx} {b L : Nat} {xs : Nat → Int32} {adC adM : Nat → Nat} (C : LC Y p s m meth c b L xs adC adM) {σc σm : St} (hI : LI σc σm) {H : Heap} {locs : List Loc} (hH : LH Y s adC adM σc σm H locs) {ls : Array Slot} {k : Nat} (hk : k + 6 ≤ L) (hl : lv_has ls 4 [(3, .int (nI k)), (2, .ref (adM 0)), (1, .ref (adC 0)), (0, .ref b)]) (kk : ∀ (σc' σm' : St) (H' : Heap) (locs' : List Loc), LI σc' σm' → LH Y s adC adM σc' σm' H' locs' → W p Y.1 e room_1 s m #[Value.ref b] below meth c H' locs' 84 30598 (lw_Z below #[Value.ref b] s) (F0 m 553 ls [])) : W p Y.1 e room_1 s m #[Value.ref b] below meth c H locs 84 30598 (lw_Z below #[Value.ref b] s) (F0 m 461 ls []) := by
  obtain ⟨hx, hb, hr, hml, hown, hts, hX, hbl, hlk, hK, hM, hap, hL⟩ := C
  obtain ⟨hP, hP2, hD, hD2, hS⟩ := hH
  have hA : ∀ q, s.heap.size ≤ q → AL s q := fun _ h => h
  have hbA : ¬ AL s b := Nat.not_le.mpr hbl
  have hap2 : ∀ j ∈ scM.1, ∀ k ∈ scC.1, adM j ≠ adC k := fun j hj k hk e => hap k hk j hj e.symm
  obtain ⟨rc, σc', rm, σm', ec, em, hI', -⟩ := k_price (a1 := (xs (nI k + 1).toNatClampNeg)) (a2 := (xs (nI k + 2).toNatClampNeg)) hI
  refine lv_aload_n hx hb dL_law_461 rfl (lv_at hl 2 rfl) ?_
  refine lv_aload_n hx hb dL_law_462 rfl (lv_at hl 3 rfl) ?_
  refine lv_iload_n hx hb dL_law_463 rfl (lv_at hl 0 rfl) ?_
  refine lv_iconst (v := 1) hx hb dL_law_464 (by decide) ?_
  refine lv_iadd hx hb dL_law_465 ?_
  refine va_sld hx hb hX hbl hbA hS (vin (n := 1) hk hL (by decide)) dL_law_466 ?_
  refine lv_aload_n hx hb dL_law_467 rfl (lv_at hl 3 rfl) ?_
  refine lv_iload_n hx hb dL_law_468 rfl (lv_at hl 0 rfl) ?_
  refine lv_iconst (v := 2) hx hb dL_law_469 (by decide) ?_
  refine lv_iadd hx hb dL_law_470 ?_
  refine va_sld hx hb hX hbl hbA hS (vin (n := 2) hk hL (by decide)) dL_law_471 ?_
  refine l_callV (Y := Y) (sc := scC) (sc2 := scM) (ad := adC) (ad2 := adM) (σ := σc) (σ2 := σm) (o := 0) (ci := 9) (n := 2) (As := [.int (xs (nI k + 1).toNatClampNeg), .int (xs (nI k + 2).toNatClampNeg)]) (rest := []) hx hb hml hown hts hK hA hM ⟨gw_1029, gw_1030, gw_1031, gw_107, gw_1032⟩ (by decide +kernel) ⟨Nat.le_of_ble_eq_true rfl, Nat.le_of_ble_eq_true rfl⟩ (by decide) rfl rfl rfl (c_x10_price ec) rfl rfl (Nat.le_of_ble_eq_true rfl) dL_law_472 ⟨Nat.le_of_ble_eq_true rfl, Nat.le_of_ble_eq_true rfl⟩ hP hP2 hD hap hS hl (fun H locs hP hP2 hD hS => ?_)
  refine lv_pop hx hb dL_law_475 rfl ?_
  refine lv_aload_n hx hb dL_law_476 rfl (lv_at hl 1 rfl) ?_
  refine lv_aload_n hx hb dL_law_477 rfl (lv_at hl 3 rfl) ?_
  refine lv_iload_n hx hb dL_law_478 rfl (lv_at hl 0 rfl) ?_
  refine lv_iconst (v := 1) hx hb dL_law_479 (by decide) ?_
  refine lv_iadd hx hb dL_law_480 ?_
  refine va_sld hx hb hX hbl hbA hS (vin (n := 1) hk hL (by decide)) dL_law_481 ?_
  refine lv_aload_n hx hb dL_law_482 rfl (lv_at hl 3 rfl) ?_
  refine lv_iload_n hx hb dL_law_483 rfl (lv_at hl 0 rfl) ?_
  refine lv_iconst (v := 2) hx hb dL_law_484 (by decide) ?_
  refine lv_iadd hx hb dL_law_485 ?_
  refine va_sld hx hb hX hbl hbA hS (vin (n := 2) hk hL (by decide)) dL_law_486 ?_
  refine l_callV (Y := Y) (sc := scM) (sc2 := scC) (ad := adM) (ad2 := adC) (σ := σm) (σ2 := σc') (o := 0) (ci := 10) (n := 2) (As := [.int (xs (nI k + 1).toNatClampNeg), .int (xs (nI k + 2).toNatClampNeg)]) (rest := []) hx hb hml hown hts hK hA hM ⟨gw_1542, gw_1543, gw_1544, gw_117, gw_1545⟩ (by decide +kernel) ⟨Nat.le_of_ble_eq_true rfl, Nat.le_of_ble_eq_true rfl⟩ (by decide) rfl rfl rfl (c_m_price em) rfl rfl (Nat.le_of_ble_eq_true rfl) dL_law_487 ⟨Nat.le_of_ble_eq_true rfl, Nat.le_of_ble_eq_true rfl⟩ hP2 hP hD2 hap2 hS hl (fun H locs hP2 hP hD2 hS => ?_)
  refine lv_pop hx hb dL_law_490 rfl ?_
  refine lv_goto (tgt := 553) hx hb dL_law_491 (by decide) ?_
  exact kk σc' σm' _ _ hI' ⟨hP, hP2, hD, hD2, hS⟩
set_option maxHeartbeats 4000000 in
set_option maxRecDepth 100000 in
theorem lc_mend {p : Program} {e : Env} {s : State} {m : MethodId} {below : List Frame} {meth : Method} {c : Code} {Y : Yx} {b L : Nat} {xs : Nat → Int32} {adC adM : Nat → Nat} (C : LC Y p s m meth c b L xs adC adM) {σc σm : St} (hI : LI σc σm) {H : Heap} {locs : List Loc} (hH : LH Y s adC adM σc σm H locs) {ls : Array Slot} {k : Nat} (hk : k + 6 ≤ L) (hl : lv_has ls 4 [(3, .int (nI k)), (2, .ref (adM 0)), (1, .ref (adC 0)), (0, .ref b)]) (kk : ∀ (σc' σm' : St) (H' : Heap) (locs' : List Loc), LI σc' σm' → LH Y s adC adM σc' σm' H' locs' → W p Y.1 e room_1 s m #[Value.ref b] below meth c H' locs' 84 30598 (lw_Z below #[Value.ref b] s) (F0 m 553 ls [])) : W p Y.1 e room_1 s m #[Value.ref b] below meth c H locs 84 30598 (lw_Z below #[Value.ref b] s) (F0 m 494 ls []) := by
  obtain ⟨hx, hb, hr, hml, hown, hts, hX, hbl, hlk, hK, hM, hap, hL⟩ := C
  obtain ⟨hP, hP2, hD, hD2, hS⟩ := hH
  have hA : ∀ q, s.heap.size ≤ q → AL s q := fun _ h => h
  have hbA : ¬ AL s b := Nat.not_le.mpr hbl
  have hap2 : ∀ j ∈ scM.1, ∀ k ∈ scC.1, adM j ≠ adC k := fun j hj k hk e => hap k hk j hj e.symm
  obtain ⟨rc, σc', rm, σm', ec, em, hI'⟩ := k_mend hI
  refine lv_aload_n hx hb dL_law_494 rfl (lv_at hl 2 rfl) ?_
  refine l_callV (Y := Y) (sc := scC) (sc2 := scM) (ad := adC) (ad2 := adM) (σ := σc) (σ2 := σm) (o := 0) (ci := 9) (n := 0) (As := []) (rest := []) hx hb hml hown hts hK hA hM ⟨gw_1033, gw_1034, gw_1035, gw_107, gw_1036⟩ (by decide +kernel) ⟨Nat.le_of_ble_eq_true rfl, Nat.le_of_ble_eq_true rfl⟩ (by decide) rfl rfl rfl (c_x10_mend ec) rfl rfl (Nat.le_of_ble_eq_true rfl) dL_law_495 ⟨Nat.le_of_ble_eq_true rfl, Nat.le_of_ble_eq_true rfl⟩ hP hP2 hD hap hS hl (fun H locs hP hP2 hD hS => ?_)
  refine lv_pop hx hb dL_law_498 rfl ?_
  refine lv_aload_n hx hb dL_law_499 rfl (lv_at hl 1 rfl) ?_
  refine l_callV (Y := Y) (sc := scM) (sc2 := scC) (ad := adM) (ad2 := adC) (σ := σm) (σ2 := σc') (o := 0) (ci := 10) (n := 0) (As := []) (rest := []) hx hb hml hown hts hK hA hM ⟨gw_1546, gw_1547, gw_1548, gw_117, gw_1549⟩ (by decide +kernel) ⟨Nat.le_of_ble_eq_true rfl, Nat.le_of_ble_eq_true rfl⟩ (by decide) rfl rfl rfl (c_m_mend em) rfl rfl (Nat.le_of_ble_eq_true rfl) dL_law_500 ⟨Nat.le_of_ble_eq_true rfl, Nat.le_of_ble_eq_true rfl⟩ hP2 hP hD2 hap2 hS hl (fun H locs hP2 hP hD2 hS => ?_)
  refine lv_pop hx hb dL_law_503 rfl ?_
  refine lv_goto (tgt := 553) hx hb dL_law_504 (by decide) ?_
  exact kk σc' σm' _ _ hI' ⟨hP, hP2, hD, hD2, hS⟩
set_option maxHeartbeats 4000000 in
set_option maxRecDepth 100000 in
theorem lc_mended {p : Program} {e : Env} {s : State} {m : MethodId} {below : List Frame} {meth : Method} {c : Code} {Y : Yx} {b L : Nat} {xs : Nat → Int32} {adC adM : Nat → Nat} (C : LC Y p s m meth c b L xs adC adM) {σc σm : St} (hI : LI σc σm) {H : Heap} {locs : List Loc} (hH : LH Y s adC adM σc σm H locs) {ls : Array Slot} {k : Nat} (hk : k + 6 ≤ L) (hl : lv_has ls 4 [(3, .int (nI k)), (2, .ref (adM 0)), (1, .ref (adC 0)), (0, .ref b)]) (kk : ∀ (σc' σm' : St) (H' : Heap) (locs' : List Loc), LI σc' σm' → LH Y s adC adM σc' σm' H' locs' → W p Y.1 e room_1 s m #[Value.ref b] below meth c H' locs' 84 30598 (lw_Z below #[Value.ref b] s) (F0 m 553 ls [])) : W p Y.1 e room_1 s m #[Value.ref b] below meth c H locs 84 30598 (lw_Z below #[Value.ref b] s) (F0 m 507 ls []) := by
  obtain ⟨hx, hb, hr, hml, hown, hts, hX, hbl, hlk, hK, hM, hap, hL⟩ := C
  obtain ⟨hP, hP2, hD, hD2, hS⟩ := hH
  have hA : ∀ q, s.heap.size ≤ q → AL s q := fun _ h => h
  have hbA : ¬ AL s b := Nat.not_le.mpr hbl
  have hap2 : ∀ j ∈ scM.1, ∀ k ∈ scC.1, adM j ≠ adC k := fun j hj k hk e => hap k hk j hj e.symm
  obtain ⟨rc, σc', rm, σm', ec, em, hI'⟩ := k_mended (a1 := (xs (nI k + 1).toNatClampNeg)) hI
  refine lv_aload_n hx hb dL_law_507 rfl (lv_at hl 2 rfl) ?_
  refine lv_aload_n hx hb dL_law_508 rfl (lv_at hl 3 rfl) ?_
  refine lv_iload_n hx hb dL_law_509 rfl (lv_at hl 0 rfl) ?_
  refine lv_iconst (v := 1) hx hb dL_law_510 (by decide) ?_
  refine lv_iadd hx hb dL_law_511 ?_
  refine va_sld hx hb hX hbl hbA hS (vin (n := 1) hk hL (by decide)) dL_law_512 ?_
  refine l_callV (Y := Y) (sc := scC) (sc2 := scM) (ad := adC) (ad2 := adM) (σ := σc) (σ2 := σm) (o := 0) (ci := 9) (n := 1) (As := [.int (xs (nI k + 1).toNatClampNeg)]) (rest := []) hx hb hml hown hts hK hA hM ⟨gw_1080, gw_1081, gw_1082, gw_107, gw_1083⟩ (by decide +kernel) ⟨Nat.le_of_ble_eq_true rfl, Nat.le_of_ble_eq_true rfl⟩ (by decide) rfl rfl rfl (c_x10_mended ec) rfl rfl (Nat.le_of_ble_eq_true rfl) dL_law_513 ⟨Nat.le_of_ble_eq_true rfl, Nat.le_of_ble_eq_true rfl⟩ hP hP2 hD hap hS hl (fun H locs hP hP2 hD hS => ?_)
  refine lv_pop hx hb dL_law_516 rfl ?_
  refine lv_aload_n hx hb dL_law_517 rfl (lv_at hl 1 rfl) ?_
  refine lv_aload_n hx hb dL_law_518 rfl (lv_at hl 3 rfl) ?_
  refine lv_iload_n hx hb dL_law_519 rfl (lv_at hl 0 rfl) ?_
  refine lv_iconst (v := 1) hx hb dL_law_520 (by decide) ?_
  refine lv_iadd hx hb dL_law_521 ?_
  refine va_sld hx hb hX hbl hbA hS (vin (n := 1) hk hL (by decide)) dL_law_522 ?_
  refine l_callV (Y := Y) (sc := scM) (sc2 := scC) (ad := adM) (ad2 := adC) (σ := σm) (σ2 := σc') (o := 0) (ci := 10) (n := 1) (As := [.int (xs (nI k + 1).toNatClampNeg)]) (rest := []) hx hb hml hown hts hK hA hM ⟨gw_1557, gw_1558, gw_1559, gw_117, gw_1560⟩ (by decide +kernel) ⟨Nat.le_of_ble_eq_true rfl, Nat.le_of_ble_eq_true rfl⟩ (by decide) rfl rfl rfl (c_m_mended em) rfl rfl (Nat.le_of_ble_eq_true rfl) dL_law_523 ⟨Nat.le_of_ble_eq_true rfl, Nat.le_of_ble_eq_true rfl⟩ hP2 hP hD2 hap2 hS hl (fun H locs hP2 hP hD2 hS => ?_)
  refine lv_pop hx hb dL_law_526 rfl ?_
  refine lv_goto (tgt := 553) hx hb dL_law_527 (by decide) ?_
  exact kk σc' σm' _ _ hI' ⟨hP, hP2, hD, hD2, hS⟩
set_option maxHeartbeats 4000000 in
set_option maxRecDepth 100000 in
theorem lc_count {p : Program} {e : Env} {s : State} {m : MethodId} {below : List Frame} {meth : Method} {c : Code} {Y : Yx} {b L : Nat} {xs : Nat → Int32} {adC adM : Nat → Nat} (C : LC Y p s m meth c b L xs adC adM) {σc σm : St} (hI : LI σc σm) {H : Heap} {locs : List Loc} (hH : LH Y s adC adM σc σm H locs) {ls : Array Slot} {k : Nat} (hk : k + 6 ≤ L) (hl : lv_has ls 4 [(3, .int (nI k)), (2, .ref (adM 0)), (1, .ref (adC 0)), (0, .ref b)]) (kk : ∀ (σc' σm' : St) (H' : Heap) (locs' : List Loc), LI σc' σm' → LH Y s adC adM σc' σm' H' locs' → W p Y.1 e room_1 s m #[Value.ref b] below meth c H' locs' 84 30598 (lw_Z below #[Value.ref b] s) (F0 m 553 ls [])) : W p Y.1 e room_1 s m #[Value.ref b] below meth c H locs 84 30598 (lw_Z below #[Value.ref b] s) (F0 m 530 ls []) := by
  obtain ⟨hx, hb, hr, hml, hown, hts, hX, hbl, hlk, hK, hM, hap, hL⟩ := C
  obtain ⟨hP, hP2, hD, hD2, hS⟩ := hH
  have hA : ∀ q, s.heap.size ≤ q → AL s q := fun _ h => h
  have hbA : ¬ AL s b := Nat.not_le.mpr hbl
  have hap2 : ∀ j ∈ scM.1, ∀ k ∈ scC.1, adM j ≠ adC k := fun j hj k hk e => hap k hk j hj e.symm
  obtain ⟨rc, σc', rm, σm', ec, em, hI', -⟩ := k_count (a1 := (xs (nI k + 1).toNatClampNeg)) hI
  refine lv_aload_n hx hb dL_law_530 rfl (lv_at hl 2 rfl) ?_
  refine lv_aload_n hx hb dL_law_531 rfl (lv_at hl 3 rfl) ?_
  refine lv_iload_n hx hb dL_law_532 rfl (lv_at hl 0 rfl) ?_
  refine lv_iconst (v := 1) hx hb dL_law_533 (by decide) ?_
  refine lv_iadd hx hb dL_law_534 ?_
  refine va_sld hx hb hX hbl hbA hS (vin (n := 1) hk hL (by decide)) dL_law_535 ?_
  refine l_callV (Y := Y) (sc := scC) (sc2 := scM) (ad := adC) (ad2 := adM) (σ := σc) (σ2 := σm) (o := 0) (ci := 9) (n := 1) (As := [.int (xs (nI k + 1).toNatClampNeg)]) (rest := []) hx hb hml hown hts hK hA hM ⟨gw_1084, gw_1085, gw_1086, gw_107, gw_1087⟩ (by decide +kernel) ⟨Nat.le_of_ble_eq_true rfl, Nat.le_of_ble_eq_true rfl⟩ (by decide) rfl rfl rfl (c_x10_count ec) rfl rfl (Nat.le_of_ble_eq_true rfl) dL_law_536 ⟨Nat.le_of_ble_eq_true rfl, Nat.le_of_ble_eq_true rfl⟩ hP hP2 hD hap hS hl (fun H locs hP hP2 hD hS => ?_)
  refine lv_pop hx hb dL_law_539 rfl ?_
  refine lv_aload_n hx hb dL_law_540 rfl (lv_at hl 1 rfl) ?_
  refine lv_aload_n hx hb dL_law_541 rfl (lv_at hl 3 rfl) ?_
  refine lv_iload_n hx hb dL_law_542 rfl (lv_at hl 0 rfl) ?_
  refine lv_iconst (v := 1) hx hb dL_law_543 (by decide) ?_
  refine lv_iadd hx hb dL_law_544 ?_
  refine va_sld hx hb hX hbl hbA hS (vin (n := 1) hk hL (by decide)) dL_law_545 ?_
  refine l_callV (Y := Y) (sc := scM) (sc2 := scC) (ad := adM) (ad2 := adC) (σ := σm) (σ2 := σc') (o := 0) (ci := 10) (n := 1) (As := [.int (xs (nI k + 1).toNatClampNeg)]) (rest := []) hx hb hml hown hts hK hA hM ⟨gw_1561, gw_1562, gw_1563, gw_117, gw_1564⟩ (by decide +kernel) ⟨Nat.le_of_ble_eq_true rfl, Nat.le_of_ble_eq_true rfl⟩ (by decide) rfl rfl rfl (c_m_count em) rfl rfl (Nat.le_of_ble_eq_true rfl) dL_law_546 ⟨Nat.le_of_ble_eq_true rfl, Nat.le_of_ble_eq_true rfl⟩ hP2 hP hD2 hap2 hS hl (fun H locs hP2 hP hD2 hS => ?_)
  refine lv_pop hx hb dL_law_549 rfl ?_
  refine lv_goto (tgt := 553) hx hb dL_law_550 (by decide) ?_
  exact kk σc' σm' _ _ hI' ⟨hP, hP2, hD, hD2, hS⟩
