
set_option maxRecDepth 20000 in
theorem gl_k_feed : GoodIn lw_tbl (wsV RL 13 RX11 yX11_feed vs_k_feed) := goodIn_app (goodIn_sub (by_places [364, 365, 366, 112] (by decide +kernel)) (by decide +kernel)) (goodIn_sub tb_k_feed vg_k_feed)
set_option maxRecDepth 20000 in
theorem gl_n_feed : GoodIn lw_tbl (wsV RL 17 RX12 yX12_feed vs_n_feed) := goodIn_app (goodIn_sub (by_places [1874, 1875, 1876, 118] (by decide +kernel)) (by decide +kernel)) (goodIn_sub tb_n_feed vg_n_feed)
set_option maxRecDepth 20000 in
theorem gl_k_end : GoodIn lw_tbl (wsV RL 18 RX11 yX11_end vs_k_end) := goodIn_app (goodIn_sub (by_places [372, 373, 374, 112] (by decide +kernel)) (by decide +kernel)) (goodIn_sub tb_k_end vg_k_end)
set_option maxRecDepth 20000 in
theorem gl_n_end : GoodIn lw_tbl (wsV RL 22 RX12 yX12_end vs_n_end) := goodIn_app (goodIn_sub (by_places [1878, 1879, 1880, 118] (by decide +kernel)) (by decide +kernel)) (goodIn_sub tb_n_end vg_n_end)
set_option maxRecDepth 20000 in
theorem gl_t_program : GoodIn lw_tbl (wsV RL 23 RX11 yX11_program vs_t_program) := goodIn_app (goodIn_sub (by_places [376, 377, 378, 112] (by decide +kernel)) (by decide +kernel)) (goodIn_sub tb_t_program vg_t_program)
set_option maxRecDepth 20000 in
theorem gl_n_programV : GoodIn lw_tbl (wsV RL 27 RX12 yX12_program vs_n_programV) := goodIn_app (goodIn_sub (by_places [1460, 1461, 1462, 118] (by decide +kernel)) (by decide +kernel)) (goodIn_sub tb_n_programV vg_n_programV)
set_option maxRecDepth 20000 in
theorem gl_k_fault : GoodIn lw_tbl (wsV RL 28 RX11 yX11_fault vs_k_fault) := goodIn_app (goodIn_sub (by_places [801, 802, 803, 112] (by decide +kernel)) (by decide +kernel)) (goodIn_sub tb_k_fault vg_k_fault)
set_option maxRecDepth 20000 in
theorem gl_n_fault : GoodIn lw_tbl (wsV RL 31 RX12 yX12_fault vs_n_fault) := goodIn_app (goodIn_sub (by_places [1592, 1593, 1594, 118] (by decide +kernel)) (by decide +kernel)) (goodIn_sub tb_n_fault vg_n_fault)
set_option maxRecDepth 20000 in
theorem gl_k_span : GoodIn lw_tbl (wsV RL 32 RX11 yX11_span vs_k_span) := goodIn_app (goodIn_sub (by_places [805, 806, 807, 112] (by decide +kernel)) (by decide +kernel)) (goodIn_sub tb_k_span vg_k_span)
set_option maxRecDepth 20000 in
theorem gl_n_span : GoodIn lw_tbl (wsV RL 36 RX12 yX12_span vs_n_span) := goodIn_app (goodIn_sub (by_places [1596, 1597, 1598, 118] (by decide +kernel)) (by decide +kernel)) (goodIn_sub tb_n_span vg_n_span)
set_option maxRecDepth 20000 in
theorem gl_v_sheet : GoodIn lw_tbl (wsV RL 37 RX11 yX11_sheet vs_v_sheet) := goodIn_app (goodIn_sub (by_places [813, 814, 815, 112] (by decide +kernel)) (by decide +kernel)) (goodIn_sub tb_v_sheet vg_v_sheet)
set_option maxRecDepth 20000 in
theorem gl_n_sheetV : GoodIn lw_tbl (wsV RL 41 RX12 yX12_sheet vs_n_sheetV) := goodIn_app (goodIn_sub (by_places [1615, 1616, 1617, 118] (by decide +kernel)) (by decide +kernel)) (goodIn_sub tb_n_sheetV vg_n_sheetV)
set_option maxRecDepth 20000 in
theorem gl_v_put : GoodIn lw_tbl (wsV RL 42 RX11 yX11_put vs_v_put) := goodIn_app (goodIn_sub (by_places [869, 870, 871, 112] (by decide +kernel)) (by decide +kernel)) (goodIn_sub tb_v_put vg_v_put)
set_option maxRecDepth 20000 in
theorem gl_n_putV : GoodIn lw_tbl (wsV RL 46 RX12 yX12_put vs_n_putV) := goodIn_app (goodIn_sub (by_places [1619, 1620, 1621, 118] (by decide +kernel)) (by decide +kernel)) (goodIn_sub tb_n_putV vg_n_putV)
set_option maxRecDepth 20000 in
theorem gl_v_change : GoodIn lw_tbl (wsV RL 47 RX11 yX11_change vs_v_change) := goodIn_app (goodIn_sub (by_places [877, 878, 879, 112] (by decide +kernel)) (by decide +kernel)) (goodIn_sub tb_v_change vg_v_change)
set_option maxRecDepth 20000 in
theorem gl_n_changeV : GoodIn lw_tbl (wsV RL 51 RX12 yX12_change vs_n_changeV) := goodIn_app (goodIn_sub (by_places [1623, 1624, 1625, 118] (by decide +kernel)) (by decide +kernel)) (goodIn_sub tb_n_changeV vg_n_changeV)
set_option maxRecDepth 20000 in
theorem gl_k_value : GoodIn lw_tbl (wsV RL 52 RX11 yX11_value vs_k_value) := goodIn_app (goodIn_sub (by_places [888, 889, 890, 112] (by decide +kernel)) (by decide +kernel)) (goodIn_sub tb_k_value vg_k_value)
set_option maxRecDepth 20000 in
theorem gl_n_value : GoodIn lw_tbl (wsV RL 56 RX12 yX12_value vs_n_value) := goodIn_app (goodIn_sub (by_places [1631, 1632, 1633, 118] (by decide +kernel)) (by decide +kernel)) (goodIn_sub tb_n_value vg_n_value)
set_option maxRecDepth 20000 in
theorem gl_k_error : GoodIn lw_tbl (wsV RL 57 RX11 yX11_error vs_k_error) := goodIn_app (goodIn_sub (by_places [965, 966, 967, 112] (by decide +kernel)) (by decide +kernel)) (goodIn_sub tb_k_error vg_k_error)
set_option maxRecDepth 20000 in
theorem gl_n_error : GoodIn lw_tbl (wsV RL 61 RX12 yX12_error vs_n_error) := goodIn_app (goodIn_sub (by_places [1724, 1725, 1726, 118] (by decide +kernel)) (by decide +kernel)) (goodIn_sub tb_n_error vg_n_error)
set_option maxRecDepth 20000 in
theorem gl_k_off : GoodIn lw_tbl (wsV RL 62 RX11 yX11_off vs_k_off) := goodIn_app (goodIn_sub (by_places [970, 971, 972, 112] (by decide +kernel)) (by decide +kernel)) (goodIn_sub tb_k_off vg_k_off)
set_option maxRecDepth 20000 in
theorem gl_n_off : GoodIn lw_tbl (wsV RL 66 RX12 yX12_off vs_n_off) := goodIn_app (goodIn_sub (by_places [1729, 1730, 1731, 118] (by decide +kernel)) (by decide +kernel)) (goodIn_sub tb_n_off vg_n_off)
set_option maxRecDepth 20000 in
theorem gl_k_barred : GoodIn lw_tbl (wsV RL 67 RX11 yX11_barred vs_k_barred) := goodIn_app (goodIn_sub (by_places [982, 983, 984, 112] (by decide +kernel)) (by decide +kernel)) (goodIn_sub tb_k_barred vg_k_barred)
set_option maxRecDepth 20000 in
theorem gl_n_barred : GoodIn lw_tbl (wsV RL 70 RX12 yX12_barred vs_n_barred) := goodIn_app (goodIn_sub (by_places [1741, 1742, 1743, 118] (by decide +kernel)) (by decide +kernel)) (goodIn_sub tb_n_barred vg_n_barred)
set_option maxRecDepth 20000 in
theorem gl_k_measured : GoodIn lw_tbl (wsV RL 71 RX11 yX11_measured vs_k_measured) := goodIn_app (goodIn_sub (by_places [986, 987, 988, 112] (by decide +kernel)) (by decide +kernel)) (goodIn_sub tb_k_measured vg_k_measured)
set_option maxRecDepth 20000 in
theorem gl_n_measured : GoodIn lw_tbl (wsV RL 74 RX12 yX12_measured vs_n_measured) := goodIn_app (goodIn_sub (by_places [1745, 1746, 1747, 118] (by decide +kernel)) (by decide +kernel)) (goodIn_sub tb_n_measured vg_n_measured)
set_option maxRecDepth 20000 in
theorem gl_k_passed : GoodIn lw_tbl (wsV RL 75 RX11 yX11_passed vs_k_passed) := goodIn_app (goodIn_sub (by_places [1006, 1007, 1008, 112] (by decide +kernel)) (by decide +kernel)) (goodIn_sub tb_k_passed vg_k_passed)
set_option maxRecDepth 20000 in
theorem gl_n_passed : GoodIn lw_tbl (wsV RL 79 RX12 yX12_passed vs_n_passed) := goodIn_app (goodIn_sub (by_places [1757, 1758, 1759, 118] (by decide +kernel)) (by decide +kernel)) (goodIn_sub tb_n_passed vg_n_passed)
set_option maxRecDepth 20000 in
theorem gl_k_mean : GoodIn lw_tbl (wsV RL 80 RX11 yX11_mean vs_k_mean) := goodIn_app (goodIn_sub (by_places [1010, 1011, 1012, 112] (by decide +kernel)) (by decide +kernel)) (goodIn_sub tb_k_mean vg_k_mean)
set_option maxRecDepth 20000 in
theorem gl_n_mean : GoodIn lw_tbl (wsV RL 83 RX12 yX12_mean vs_n_mean) := goodIn_app (goodIn_sub (by_places [1761, 1762, 1763, 118] (by decide +kernel)) (by decide +kernel)) (goodIn_sub tb_n_mean vg_n_mean)
set_option maxRecDepth 20000 in
theorem gl_k_saved : GoodIn lw_tbl (wsV RL 84 RX11 yX11_saved vs_k_saved) := goodIn_app (goodIn_sub (by_places [1017, 1018, 1019, 112] (by decide +kernel)) (by decide +kernel)) (goodIn_sub tb_k_saved vg_k_saved)
set_option maxRecDepth 20000 in
theorem gl_n_saved : GoodIn lw_tbl (wsV RL 87 RX12 yX12_saved vs_n_saved) := goodIn_app (goodIn_sub (by_places [1768, 1769, 1770, 118] (by decide +kernel)) (by decide +kernel)) (goodIn_sub tb_n_saved vg_n_saved)
set_option maxRecDepth 20000 in
theorem gl_k_ticks : GoodIn lw_tbl (wsV RL 88 RX11 yX11_ticks vs_k_ticks) := goodIn_app (goodIn_sub (by_places [1025, 1026, 1027, 112] (by decide +kernel)) (by decide +kernel)) (goodIn_sub tb_k_ticks vg_k_ticks)
set_option maxRecDepth 20000 in
theorem gl_n_ticks : GoodIn lw_tbl (wsV RL 91 RX12 yX12_ticks vs_n_ticks) := goodIn_app (goodIn_sub (by_places [1776, 1777, 1778, 118] (by decide +kernel)) (by decide +kernel)) (goodIn_sub tb_n_ticks vg_n_ticks)
set_option maxRecDepth 20000 in
theorem gl_k_let : GoodIn lw_tbl (wsV RL 92 RX11 yX11_let vs_k_let) := goodIn_app (goodIn_sub (by_places [1035, 1036, 1037, 112] (by decide +kernel)) (by decide +kernel)) (goodIn_sub tb_k_let vg_k_let)
set_option maxRecDepth 20000 in
theorem gl_n_let : GoodIn lw_tbl (wsV RL 95 RX12 yX12_let vs_n_let) := goodIn_app (goodIn_sub (by_places [1780, 1781, 1782, 118] (by decide +kernel)) (by decide +kernel)) (goodIn_sub tb_n_let vg_n_let)
set_option maxRecDepth 20000 in
theorem gl_k_best : GoodIn lw_tbl (wsV RL 96 RX11 yX11_best vs_k_best) := goodIn_app (goodIn_sub (by_places [1059, 1060, 1061, 112] (by decide +kernel)) (by decide +kernel)) (goodIn_sub tb_k_best vg_k_best)
set_option maxRecDepth 20000 in
theorem gl_n_best : GoodIn lw_tbl (wsV RL 99 RX12 yX12_best vs_n_best) := goodIn_app (goodIn_sub (by_places [1788, 1789, 1790, 118] (by decide +kernel)) (by decide +kernel)) (goodIn_sub tb_n_best vg_n_best)
set_option maxRecDepth 20000 in
theorem gl_t_front : GoodIn lw_tbl (wsV RL 100 RX11 yX11_front vs_t_front) := goodIn_app (goodIn_sub (by_places [1091, 1092, 1093, 112] (by decide +kernel)) (by decide +kernel)) (goodIn_sub tb_t_front vg_t_front)
set_option maxRecDepth 20000 in
theorem gl_n_front : GoodIn lw_tbl (wsV RL 103 RX12 yX12_front vs_n_front) := goodIn_app (goodIn_sub (by_places [1795, 1796, 1797, 118] (by decide +kernel)) (by decide +kernel)) (goodIn_sub tb_n_front vg_n_front)
set_option maxRecDepth 20000 in
theorem gl_v_front : GoodIn lw_tbl (wsV RL 100 RX11 yX11_front vs_v_front) := goodIn_app (goodIn_sub (by_places [1091, 1092, 1093, 112] (by decide +kernel)) (by decide +kernel)) (goodIn_sub tb_v_front vg_v_front)
set_option maxRecDepth 20000 in
theorem gl_t_pair : GoodIn lw_tbl (wsV RL 104 RX11 yX11_pair vs_t_pair) := goodIn_app (goodIn_sub (by_places [1147, 1148, 1149, 112] (by decide +kernel)) (by decide +kernel)) (goodIn_sub tb_t_pair vg_t_pair)
set_option maxRecDepth 20000 in
theorem gl_n_pair : GoodIn lw_tbl (wsV RL 107 RX12 yX12_pair vs_n_pair) := goodIn_app (goodIn_sub (by_places [1807, 1808, 1809, 118] (by decide +kernel)) (by decide +kernel)) (goodIn_sub tb_n_pair vg_n_pair)
set_option maxRecDepth 20000 in
theorem gl_v_pair : GoodIn lw_tbl (wsV RL 104 RX11 yX11_pair vs_v_pair) := goodIn_app (goodIn_sub (by_places [1147, 1148, 1149, 112] (by decide +kernel)) (by decide +kernel)) (goodIn_sub tb_v_pair vg_v_pair)
set_option maxRecDepth 20000 in
theorem gl_k_guard : GoodIn lw_tbl (wsV RL 108 RX11 yX11_guard vs_k_guard) := goodIn_app (goodIn_sub (by_places [1151, 1152, 1153, 112] (by decide +kernel)) (by decide +kernel)) (goodIn_sub tb_k_guard vg_k_guard)
set_option maxRecDepth 20000 in
theorem gl_n_guard : GoodIn lw_tbl (wsV RL 112 RX12 yX12_guard vs_n_guard) := goodIn_app (goodIn_sub (by_places [1811, 1812, 1813, 118] (by decide +kernel)) (by decide +kernel)) (goodIn_sub tb_n_guard vg_n_guard)
set_option maxRecDepth 20000 in
theorem gl_k_through : GoodIn lw_tbl (wsV RL 113 RX11 yX11_through vs_k_through) := goodIn_app (goodIn_sub (by_places [1155, 1156, 1157, 112] (by decide +kernel)) (by decide +kernel)) (goodIn_sub tb_k_through vg_k_through)
set_option maxRecDepth 20000 in
theorem gl_n_through : GoodIn lw_tbl (wsV RL 116 RX12 yX12_through vs_n_through) := goodIn_app (goodIn_sub (by_places [1815, 1816, 1817, 118] (by decide +kernel)) (by decide +kernel)) (goodIn_sub tb_n_through vg_n_through)
set_option maxRecDepth 20000 in
theorem gl_k_turned : GoodIn lw_tbl (wsV RL 117 RX11 yX11_turned vs_k_turned) := goodIn_app (goodIn_sub (by_places [1163, 1164, 1165, 112] (by decide +kernel)) (by decide +kernel)) (goodIn_sub tb_k_turned vg_k_turned)
set_option maxRecDepth 20000 in
theorem gl_n_turned : GoodIn lw_tbl (wsV RL 120 RX12 yX12_turned vs_n_turned) := goodIn_app (goodIn_sub (by_places [1823, 1824, 1825, 118] (by decide +kernel)) (by decide +kernel)) (goodIn_sub tb_n_turned vg_n_turned)
set_option maxRecDepth 20000 in
theorem gl_k_worst : GoodIn lw_tbl (wsV RL 121 RX11 yX11_worst vs_k_worst) := goodIn_app (goodIn_sub (by_places [1167, 1168, 1169, 112] (by decide +kernel)) (by decide +kernel)) (goodIn_sub tb_k_worst vg_k_worst)
set_option maxRecDepth 20000 in
theorem gl_n_worst : GoodIn lw_tbl (wsV RL 124 RX12 yX12_worst vs_n_worst) := goodIn_app (goodIn_sub (by_places [1827, 1828, 1829, 118] (by decide +kernel)) (by decide +kernel)) (goodIn_sub tb_n_worst vg_n_worst)
set_option maxRecDepth 20000 in
theorem gl_k_led : GoodIn lw_tbl (wsV RL 125 RX11 yX11_led vs_k_led) := goodIn_app (goodIn_sub (by_places [1176, 1177, 1178, 112] (by decide +kernel)) (by decide +kernel)) (goodIn_sub tb_k_led vg_k_led)
set_option maxRecDepth 20000 in
theorem gl_n_led : GoodIn lw_tbl (wsV RL 129 RX12 yX12_led vs_n_led) := goodIn_app (goodIn_sub (by_places [1839, 1840, 1841, 118] (by decide +kernel)) (by decide +kernel)) (goodIn_sub tb_n_led vg_n_led)
set_option maxRecDepth 20000 in
theorem gl_k_purse : GoodIn lw_tbl (wsV RL 130 RX11 yX11_purse vs_k_purse) := goodIn_app (goodIn_sub (by_places [1180, 1181, 1182, 112] (by decide +kernel)) (by decide +kernel)) (goodIn_sub tb_k_purse vg_k_purse)
set_option maxRecDepth 20000 in
theorem gl_n_purse : GoodIn lw_tbl (wsV RL 134 RX12 yX12_purse vs_n_purse) := goodIn_app (goodIn_sub (by_places [1861, 1862, 1863, 118] (by decide +kernel)) (by decide +kernel)) (goodIn_sub tb_n_purse vg_n_purse)
set_option maxRecDepth 20000 in
theorem gl_k_day : GoodIn lw_tbl (wsV RL 135 RX11 yX11_day vs_k_day) := goodIn_app (goodIn_sub (by_places [1185, 1186, 1187, 112] (by decide +kernel)) (by decide +kernel)) (goodIn_sub tb_k_day vg_k_day)
set_option maxRecDepth 20000 in
theorem gl_n_day : GoodIn lw_tbl (wsV RL 138 RX12 yX12_day vs_n_day) := goodIn_app (goodIn_sub (by_places [1866, 1867, 1868, 118] (by decide +kernel)) (by decide +kernel)) (goodIn_sub tb_n_day vg_n_day)
set_option maxRecDepth 20000 in
theorem gl_t_plan : GoodIn lw_tbl (wsV RL 139 RX11 yX11_plan vs_t_plan) := goodIn_app (goodIn_sub (by_places [1189, 1190, 1191, 112] (by decide +kernel)) (by decide +kernel)) (goodIn_sub tb_t_plan vg_t_plan)
set_option maxRecDepth 20000 in
theorem gl_n_plan : GoodIn lw_tbl (wsV RL 142 RX12 yX12_plan vs_n_plan) := goodIn_app (goodIn_sub (by_places [1847, 1848, 1849, 118] (by decide +kernel)) (by decide +kernel)) (goodIn_sub tb_n_plan vg_n_plan)
set_option maxRecDepth 20000 in
theorem gl_v_planN : GoodIn lw_tbl (wsV RL 139 RX11 yX11_plan vs_v_planN) := goodIn_app (goodIn_sub (by_places [1189, 1190, 1191, 112] (by decide +kernel)) (by decide +kernel)) (goodIn_sub tb_v_planN vg_v_planN)
set_option maxRecDepth 20000 in
theorem gl_v_plan : GoodIn lw_tbl (wsV RL 139 RX11 yX11_plan vs_v_plan) := goodIn_app (goodIn_sub (by_places [1189, 1190, 1191, 112] (by decide +kernel)) (by decide +kernel)) (goodIn_sub tb_v_plan vg_v_plan)
set_option maxRecDepth 20000 in
theorem gl_t_planned : GoodIn lw_tbl (wsV RL 143 RX11 yX11_planned vs_t_planned) := goodIn_app (goodIn_sub (by_places [1257, 1258, 1259, 112] (by decide +kernel)) (by decide +kernel)) (goodIn_sub tb_t_planned vg_t_planned)
set_option maxRecDepth 20000 in
theorem gl_n_planned : GoodIn lw_tbl (wsV RL 146 RX12 yX12_planned vs_n_planned) := goodIn_app (goodIn_sub (by_places [1857, 1858, 1859, 118] (by decide +kernel)) (by decide +kernel)) (goodIn_sub tb_n_planned vg_n_planned)
set_option maxRecDepth 20000 in
theorem gl_v_plannedM : GoodIn lw_tbl (wsV RL 143 RX11 yX11_planned vs_v_plannedM) := goodIn_app (goodIn_sub (by_places [1257, 1258, 1259, 112] (by decide +kernel)) (by decide +kernel)) (goodIn_sub tb_v_plannedM vg_v_plannedM)
set_option maxRecDepth 20000 in
theorem gl_v_plannedN : GoodIn lw_tbl (wsV RL 143 RX11 yX11_planned vs_v_plannedN) := goodIn_app (goodIn_sub (by_places [1257, 1258, 1259, 112] (by decide +kernel)) (by decide +kernel)) (goodIn_sub tb_v_plannedN vg_v_plannedN)
set_option maxRecDepth 20000 in
theorem gl_v_planned : GoodIn lw_tbl (wsV RL 143 RX11 yX11_planned vs_v_planned) := goodIn_app (goodIn_sub (by_places [1257, 1258, 1259, 112] (by decide +kernel)) (by decide +kernel)) (goodIn_sub tb_v_planned vg_v_planned)
set_option maxRecDepth 20000 in
theorem gl_k_about : GoodIn lw_tbl (wsV RL 147 RX11 yX11_about vs_k_about) := goodIn_app (goodIn_sub (by_places [1272, 1273, 1274, 112] (by decide +kernel)) (by decide +kernel)) (goodIn_sub tb_k_about vg_k_about)
set_option maxRecDepth 20000 in
theorem gl_n_about : GoodIn lw_tbl (wsV RL 150 RX12 yX12_about vs_n_about) := goodIn_app (goodIn_sub (by_places [1870, 1871, 1872, 118] (by decide +kernel)) (by decide +kernel)) (goodIn_sub tb_n_about vg_n_about)
