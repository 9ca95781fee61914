
set_option maxRecDepth 20000 in
theorem gl_c_feed : GoodIn lw_tbl (wsV RL 13 RX11 yX11_feed vs_c_feed) := goodIn_app (goodIn_sub (by_places [364, 365, 366, 112] (by decide +kernel)) (by decide +kernel)) (goodIn_sub tb_c_feed vg_c_feed)
set_option maxRecDepth 20000 in
theorem gl_m_feed : GoodIn lw_tbl (wsV RL 17 RX12 yX12_feed vs_m_feed) := goodIn_app (goodIn_sub (by_places [1874, 1875, 1876, 118] (by decide +kernel)) (by decide +kernel)) (goodIn_sub tb_m_feed vg_m_feed)
set_option maxRecDepth 20000 in
theorem gl_c_end : GoodIn lw_tbl (wsV RL 18 RX11 yX11_end vs_c_end) := goodIn_app (goodIn_sub (by_places [372, 373, 374, 112] (by decide +kernel)) (by decide +kernel)) (goodIn_sub tb_c_end vg_c_end)
set_option maxRecDepth 20000 in
theorem gl_m_end : GoodIn lw_tbl (wsV RL 22 RX12 yX12_end vs_m_end) := goodIn_app (goodIn_sub (by_places [1878, 1879, 1880, 118] (by decide +kernel)) (by decide +kernel)) (goodIn_sub tb_m_end vg_m_end)
set_option maxRecDepth 20000 in
theorem gl_c_program : GoodIn lw_tbl (wsV RL 23 RX11 yX11_program vs_c_program) := goodIn_app (goodIn_sub (by_places [376, 377, 378, 112] (by decide +kernel)) (by decide +kernel)) (goodIn_sub tb_c_program vg_c_program)
set_option maxRecDepth 20000 in
theorem gl_m_program : GoodIn lw_tbl (wsV RL 27 RX12 yX12_program vs_m_program) := goodIn_app (goodIn_sub (by_places [1460, 1461, 1462, 118] (by decide +kernel)) (by decide +kernel)) (goodIn_sub tb_m_program vg_m_program)
set_option maxRecDepth 20000 in
theorem gl_c_fault : GoodIn lw_tbl (wsV RL 28 RX11 yX11_fault vs_c_fault) := goodIn_app (goodIn_sub (by_places [801, 802, 803, 112] (by decide +kernel)) (by decide +kernel)) (goodIn_sub tb_c_fault vg_c_fault)
set_option maxRecDepth 20000 in
theorem gl_m_fault : GoodIn lw_tbl (wsV RL 31 RX12 yX12_fault vs_m_fault) := goodIn_app (goodIn_sub (by_places [1592, 1593, 1594, 118] (by decide +kernel)) (by decide +kernel)) (goodIn_sub tb_m_fault vg_m_fault)
set_option maxRecDepth 20000 in
theorem gl_c_span : GoodIn lw_tbl (wsV RL 32 RX11 yX11_span vs_c_span) := goodIn_app (goodIn_sub (by_places [805, 806, 807, 112] (by decide +kernel)) (by decide +kernel)) (goodIn_sub tb_c_span vg_c_span)
set_option maxRecDepth 20000 in
theorem gl_m_span : GoodIn lw_tbl (wsV RL 36 RX12 yX12_span vs_m_span) := goodIn_app (goodIn_sub (by_places [1596, 1597, 1598, 118] (by decide +kernel)) (by decide +kernel)) (goodIn_sub tb_m_span vg_m_span)
set_option maxRecDepth 20000 in
theorem gl_c_sheet : GoodIn lw_tbl (wsV RL 37 RX11 yX11_sheet vs_c_sheet) := goodIn_app (goodIn_sub (by_places [813, 814, 815, 112] (by decide +kernel)) (by decide +kernel)) (goodIn_sub tb_c_sheet vg_c_sheet)
set_option maxRecDepth 20000 in
theorem gl_m_sheet : GoodIn lw_tbl (wsV RL 41 RX12 yX12_sheet vs_m_sheet) := goodIn_app (goodIn_sub (by_places [1615, 1616, 1617, 118] (by decide +kernel)) (by decide +kernel)) (goodIn_sub tb_m_sheet vg_m_sheet)
set_option maxRecDepth 20000 in
theorem gl_c_put : GoodIn lw_tbl (wsV RL 42 RX11 yX11_put vs_c_put) := goodIn_app (goodIn_sub (by_places [869, 870, 871, 112] (by decide +kernel)) (by decide +kernel)) (goodIn_sub tb_c_put vg_c_put)
set_option maxRecDepth 20000 in
theorem gl_m_put : GoodIn lw_tbl (wsV RL 46 RX12 yX12_put vs_m_put) := goodIn_app (goodIn_sub (by_places [1619, 1620, 1621, 118] (by decide +kernel)) (by decide +kernel)) (goodIn_sub tb_m_put vg_m_put)
set_option maxRecDepth 20000 in
theorem gl_c_change : GoodIn lw_tbl (wsV RL 47 RX11 yX11_change vs_c_change) := goodIn_app (goodIn_sub (by_places [877, 878, 879, 112] (by decide +kernel)) (by decide +kernel)) (goodIn_sub tb_c_change vg_c_change)
set_option maxRecDepth 20000 in
theorem gl_m_change : GoodIn lw_tbl (wsV RL 51 RX12 yX12_change vs_m_change) := goodIn_app (goodIn_sub (by_places [1623, 1624, 1625, 118] (by decide +kernel)) (by decide +kernel)) (goodIn_sub tb_m_change vg_m_change)
set_option maxRecDepth 20000 in
theorem gl_c_value : GoodIn lw_tbl (wsV RL 52 RX11 yX11_value vs_c_value) := goodIn_app (goodIn_sub (by_places [888, 889, 890, 112] (by decide +kernel)) (by decide +kernel)) (goodIn_sub tb_c_value vg_c_value)
set_option maxRecDepth 20000 in
theorem gl_m_value : GoodIn lw_tbl (wsV RL 56 RX12 yX12_value vs_m_value) := goodIn_app (goodIn_sub (by_places [1631, 1632, 1633, 118] (by decide +kernel)) (by decide +kernel)) (goodIn_sub tb_m_value vg_m_value)
set_option maxRecDepth 20000 in
theorem gl_c_error : GoodIn lw_tbl (wsV RL 57 RX11 yX11_error vs_c_error) := goodIn_app (goodIn_sub (by_places [965, 966, 967, 112] (by decide +kernel)) (by decide +kernel)) (goodIn_sub tb_c_error vg_c_error)
set_option maxRecDepth 20000 in
theorem gl_m_error : GoodIn lw_tbl (wsV RL 61 RX12 yX12_error vs_m_error) := goodIn_app (goodIn_sub (by_places [1724, 1725, 1726, 118] (by decide +kernel)) (by decide +kernel)) (goodIn_sub tb_m_error vg_m_error)
set_option maxRecDepth 20000 in
theorem gl_c_off : GoodIn lw_tbl (wsV RL 62 RX11 yX11_off vs_c_off) := goodIn_app (goodIn_sub (by_places [970, 971, 972, 112] (by decide +kernel)) (by decide +kernel)) (goodIn_sub tb_c_off vg_c_off)
set_option maxRecDepth 20000 in
theorem gl_m_off : GoodIn lw_tbl (wsV RL 66 RX12 yX12_off vs_m_off) := goodIn_app (goodIn_sub (by_places [1729, 1730, 1731, 118] (by decide +kernel)) (by decide +kernel)) (goodIn_sub tb_m_off vg_m_off)
set_option maxRecDepth 20000 in
theorem gl_c_barred : GoodIn lw_tbl (wsV RL 67 RX11 yX11_barred vs_c_barred) := goodIn_app (goodIn_sub (by_places [982, 983, 984, 112] (by decide +kernel)) (by decide +kernel)) (goodIn_sub tb_c_barred vg_c_barred)
set_option maxRecDepth 20000 in
theorem gl_m_barred : GoodIn lw_tbl (wsV RL 70 RX12 yX12_barred vs_m_barred) := goodIn_app (goodIn_sub (by_places [1741, 1742, 1743, 118] (by decide +kernel)) (by decide +kernel)) (goodIn_sub tb_m_barred vg_m_barred)
set_option maxRecDepth 20000 in
theorem gl_c_measured : GoodIn lw_tbl (wsV RL 71 RX11 yX11_measured vs_c_measured) := goodIn_app (goodIn_sub (by_places [986, 987, 988, 112] (by decide +kernel)) (by decide +kernel)) (goodIn_sub tb_c_measured vg_c_measured)
set_option maxRecDepth 20000 in
theorem gl_m_measured : GoodIn lw_tbl (wsV RL 74 RX12 yX12_measured vs_m_measured) := goodIn_app (goodIn_sub (by_places [1745, 1746, 1747, 118] (by decide +kernel)) (by decide +kernel)) (goodIn_sub tb_m_measured vg_m_measured)
set_option maxRecDepth 20000 in
theorem gl_c_passed : GoodIn lw_tbl (wsV RL 75 RX11 yX11_passed vs_c_passed) := goodIn_app (goodIn_sub (by_places [1006, 1007, 1008, 112] (by decide +kernel)) (by decide +kernel)) (goodIn_sub tb_c_passed vg_c_passed)
set_option maxRecDepth 20000 in
theorem gl_m_passed : GoodIn lw_tbl (wsV RL 79 RX12 yX12_passed vs_m_passed) := goodIn_app (goodIn_sub (by_places [1757, 1758, 1759, 118] (by decide +kernel)) (by decide +kernel)) (goodIn_sub tb_m_passed vg_m_passed)
set_option maxRecDepth 20000 in
theorem gl_c_mean : GoodIn lw_tbl (wsV RL 80 RX11 yX11_mean vs_c_mean) := goodIn_app (goodIn_sub (by_places [1010, 1011, 1012, 112] (by decide +kernel)) (by decide +kernel)) (goodIn_sub tb_c_mean vg_c_mean)
set_option maxRecDepth 20000 in
theorem gl_m_mean : GoodIn lw_tbl (wsV RL 83 RX12 yX12_mean vs_m_mean) := goodIn_app (goodIn_sub (by_places [1761, 1762, 1763, 118] (by decide +kernel)) (by decide +kernel)) (goodIn_sub tb_m_mean vg_m_mean)
set_option maxRecDepth 20000 in
theorem gl_c_saved : GoodIn lw_tbl (wsV RL 84 RX11 yX11_saved vs_c_saved) := goodIn_app (goodIn_sub (by_places [1017, 1018, 1019, 112] (by decide +kernel)) (by decide +kernel)) (goodIn_sub tb_c_saved vg_c_saved)
set_option maxRecDepth 20000 in
theorem gl_m_saved : GoodIn lw_tbl (wsV RL 87 RX12 yX12_saved vs_m_saved) := goodIn_app (goodIn_sub (by_places [1768, 1769, 1770, 118] (by decide +kernel)) (by decide +kernel)) (goodIn_sub tb_m_saved vg_m_saved)
set_option maxRecDepth 20000 in
theorem gl_c_ticks : GoodIn lw_tbl (wsV RL 88 RX11 yX11_ticks vs_c_ticks) := goodIn_app (goodIn_sub (by_places [1025, 1026, 1027, 112] (by decide +kernel)) (by decide +kernel)) (goodIn_sub tb_c_ticks vg_c_ticks)
set_option maxRecDepth 20000 in
theorem gl_m_ticks : GoodIn lw_tbl (wsV RL 91 RX12 yX12_ticks vs_m_ticks) := goodIn_app (goodIn_sub (by_places [1776, 1777, 1778, 118] (by decide +kernel)) (by decide +kernel)) (goodIn_sub tb_m_ticks vg_m_ticks)
set_option maxRecDepth 20000 in
theorem gl_c_let : GoodIn lw_tbl (wsV RL 92 RX11 yX11_let vs_c_let) := goodIn_app (goodIn_sub (by_places [1035, 1036, 1037, 112] (by decide +kernel)) (by decide +kernel)) (goodIn_sub tb_c_let vg_c_let)
set_option maxRecDepth 20000 in
theorem gl_m_let : GoodIn lw_tbl (wsV RL 95 RX12 yX12_let vs_m_let) := goodIn_app (goodIn_sub (by_places [1780, 1781, 1782, 118] (by decide +kernel)) (by decide +kernel)) (goodIn_sub tb_m_let vg_m_let)
set_option maxRecDepth 20000 in
theorem gl_c_best : GoodIn lw_tbl (wsV RL 96 RX11 yX11_best vs_c_best) := goodIn_app (goodIn_sub (by_places [1059, 1060, 1061, 112] (by decide +kernel)) (by decide +kernel)) (goodIn_sub tb_c_best vg_c_best)
set_option maxRecDepth 20000 in
theorem gl_m_best : GoodIn lw_tbl (wsV RL 99 RX12 yX12_best vs_m_best) := goodIn_app (goodIn_sub (by_places [1788, 1789, 1790, 118] (by decide +kernel)) (by decide +kernel)) (goodIn_sub tb_m_best vg_m_best)
set_option maxRecDepth 20000 in
theorem gl_c_front : GoodIn lw_tbl (wsV RL 100 RX11 yX11_front vs_c_front) := goodIn_app (goodIn_sub (by_places [1091, 1092, 1093, 112] (by decide +kernel)) (by decide +kernel)) (goodIn_sub tb_c_front vg_c_front)
set_option maxRecDepth 20000 in
theorem gl_m_front : GoodIn lw_tbl (wsV RL 103 RX12 yX12_front vs_m_front) := goodIn_app (goodIn_sub (by_places [1795, 1796, 1797, 118] (by decide +kernel)) (by decide +kernel)) (goodIn_sub tb_m_front vg_m_front)
set_option maxRecDepth 20000 in
theorem gl_c_pair : GoodIn lw_tbl (wsV RL 104 RX11 yX11_pair vs_c_pair) := goodIn_app (goodIn_sub (by_places [1147, 1148, 1149, 112] (by decide +kernel)) (by decide +kernel)) (goodIn_sub tb_c_pair vg_c_pair)
set_option maxRecDepth 20000 in
theorem gl_m_pair : GoodIn lw_tbl (wsV RL 107 RX12 yX12_pair vs_m_pair) := goodIn_app (goodIn_sub (by_places [1807, 1808, 1809, 118] (by decide +kernel)) (by decide +kernel)) (goodIn_sub tb_m_pair vg_m_pair)
set_option maxRecDepth 20000 in
theorem gl_c_guard : GoodIn lw_tbl (wsV RL 108 RX11 yX11_guard vs_c_guard) := goodIn_app (goodIn_sub (by_places [1151, 1152, 1153, 112] (by decide +kernel)) (by decide +kernel)) (goodIn_sub tb_c_guard vg_c_guard)
set_option maxRecDepth 20000 in
theorem gl_m_guard : GoodIn lw_tbl (wsV RL 112 RX12 yX12_guard vs_m_guard) := goodIn_app (goodIn_sub (by_places [1811, 1812, 1813, 118] (by decide +kernel)) (by decide +kernel)) (goodIn_sub tb_m_guard vg_m_guard)
set_option maxRecDepth 20000 in
theorem gl_c_through : GoodIn lw_tbl (wsV RL 113 RX11 yX11_through vs_c_through) := goodIn_app (goodIn_sub (by_places [1155, 1156, 1157, 112] (by decide +kernel)) (by decide +kernel)) (goodIn_sub tb_c_through vg_c_through)
set_option maxRecDepth 20000 in
theorem gl_m_through : GoodIn lw_tbl (wsV RL 116 RX12 yX12_through vs_m_through) := goodIn_app (goodIn_sub (by_places [1815, 1816, 1817, 118] (by decide +kernel)) (by decide +kernel)) (goodIn_sub tb_m_through vg_m_through)
set_option maxRecDepth 20000 in
theorem gl_c_turned : GoodIn lw_tbl (wsV RL 117 RX11 yX11_turned vs_c_turned) := goodIn_app (goodIn_sub (by_places [1163, 1164, 1165, 112] (by decide +kernel)) (by decide +kernel)) (goodIn_sub tb_c_turned vg_c_turned)
set_option maxRecDepth 20000 in
theorem gl_m_turned : GoodIn lw_tbl (wsV RL 120 RX12 yX12_turned vs_m_turned) := goodIn_app (goodIn_sub (by_places [1823, 1824, 1825, 118] (by decide +kernel)) (by decide +kernel)) (goodIn_sub tb_m_turned vg_m_turned)
set_option maxRecDepth 20000 in
theorem gl_c_worst : GoodIn lw_tbl (wsV RL 121 RX11 yX11_worst vs_c_worst) := goodIn_app (goodIn_sub (by_places [1167, 1168, 1169, 112] (by decide +kernel)) (by decide +kernel)) (goodIn_sub tb_c_worst vg_c_worst)
set_option maxRecDepth 20000 in
theorem gl_m_worst : GoodIn lw_tbl (wsV RL 124 RX12 yX12_worst vs_m_worst) := goodIn_app (goodIn_sub (by_places [1827, 1828, 1829, 118] (by decide +kernel)) (by decide +kernel)) (goodIn_sub tb_m_worst vg_m_worst)
set_option maxRecDepth 20000 in
theorem gl_c_led : GoodIn lw_tbl (wsV RL 125 RX11 yX11_led vs_c_led) := goodIn_app (goodIn_sub (by_places [1176, 1177, 1178, 112] (by decide +kernel)) (by decide +kernel)) (goodIn_sub tb_c_led vg_c_led)
set_option maxRecDepth 20000 in
theorem gl_m_led : GoodIn lw_tbl (wsV RL 129 RX12 yX12_led vs_m_led) := goodIn_app (goodIn_sub (by_places [1839, 1840, 1841, 118] (by decide +kernel)) (by decide +kernel)) (goodIn_sub tb_m_led vg_m_led)
set_option maxRecDepth 20000 in
theorem gl_c_purse : GoodIn lw_tbl (wsV RL 130 RX11 yX11_purse vs_c_purse) := goodIn_app (goodIn_sub (by_places [1180, 1181, 1182, 112] (by decide +kernel)) (by decide +kernel)) (goodIn_sub tb_c_purse vg_c_purse)
set_option maxRecDepth 20000 in
theorem gl_m_purse : GoodIn lw_tbl (wsV RL 134 RX12 yX12_purse vs_m_purse) := goodIn_app (goodIn_sub (by_places [1861, 1862, 1863, 118] (by decide +kernel)) (by decide +kernel)) (goodIn_sub tb_m_purse vg_m_purse)
set_option maxRecDepth 20000 in
theorem gl_c_day : GoodIn lw_tbl (wsV RL 135 RX11 yX11_day vs_c_day) := goodIn_app (goodIn_sub (by_places [1185, 1186, 1187, 112] (by decide +kernel)) (by decide +kernel)) (goodIn_sub tb_c_day vg_c_day)
set_option maxRecDepth 20000 in
theorem gl_m_day : GoodIn lw_tbl (wsV RL 138 RX12 yX12_day vs_m_day) := goodIn_app (goodIn_sub (by_places [1866, 1867, 1868, 118] (by decide +kernel)) (by decide +kernel)) (goodIn_sub tb_m_day vg_m_day)
set_option maxRecDepth 20000 in
theorem gl_c_plan : GoodIn lw_tbl (wsV RL 139 RX11 yX11_plan vs_c_plan) := goodIn_app (goodIn_sub (by_places [1189, 1190, 1191, 112] (by decide +kernel)) (by decide +kernel)) (goodIn_sub tb_c_plan vg_c_plan)
set_option maxRecDepth 20000 in
theorem gl_m_plan : GoodIn lw_tbl (wsV RL 142 RX12 yX12_plan vs_m_plan) := goodIn_app (goodIn_sub (by_places [1847, 1848, 1849, 118] (by decide +kernel)) (by decide +kernel)) (goodIn_sub tb_m_plan vg_m_plan)
set_option maxRecDepth 20000 in
theorem gl_c_planned : GoodIn lw_tbl (wsV RL 143 RX11 yX11_planned vs_c_planned) := goodIn_app (goodIn_sub (by_places [1257, 1258, 1259, 112] (by decide +kernel)) (by decide +kernel)) (goodIn_sub tb_c_planned vg_c_planned)
set_option maxRecDepth 20000 in
theorem gl_m_planned : GoodIn lw_tbl (wsV RL 146 RX12 yX12_planned vs_m_planned) := goodIn_app (goodIn_sub (by_places [1857, 1858, 1859, 118] (by decide +kernel)) (by decide +kernel)) (goodIn_sub tb_m_planned vg_m_planned)
set_option maxRecDepth 20000 in
theorem gl_c_about : GoodIn lw_tbl (wsV RL 147 RX11 yX11_about vs_c_about) := goodIn_app (goodIn_sub (by_places [1272, 1273, 1274, 112] (by decide +kernel)) (by decide +kernel)) (goodIn_sub tb_c_about vg_c_about)
set_option maxRecDepth 20000 in
theorem gl_m_about : GoodIn lw_tbl (wsV RL 150 RX12 yX12_about vs_m_about) := goodIn_app (goodIn_sub (by_places [1870, 1871, 1872, 118] (by decide +kernel)) (by decide +kernel)) (goodIn_sub tb_m_about vg_m_about)
set_option maxRecDepth 20000 in
theorem gl_c_X_init : GoodIn lw_tbl (vs_c_X_init) := (goodIn_sub tb_c_X_init vg_c_X_init)
set_option maxRecDepth 20000 in
theorem gl_c_M_init : GoodIn lw_tbl (vs_c_M_init) := (goodIn_sub tb_c_M_init vg_c_M_init)
