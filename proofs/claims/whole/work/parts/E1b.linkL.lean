def xL0 : List (Nat × Cond) := [(807, .methodLink RL 7 yX11_coast), (808, .instanceMethod yX11_coast), (809, .selects RX11 yX11_coast yX11_coast), (1088, .methodLink RL 17 yX11_law), (1089, .instanceMethod yX11_law), (1090, .selects RX11 yX11_law yX11_law), (1166, .methodLink RL 20 yX11_member), (1167, .instanceMethod yX11_member), (1168, .selects RX11 yX11_member yX11_member), (1214, .methodLink RL 28 yX11_motion), (1215, .instanceMethod yX11_motion), (1216, .selects RX11 yX11_motion yX11_motion), (1228, .methodLink RL 31 yX11_follows), (1229, .instanceMethod yX11_follows), (1230, .selects RX11 yX11_follows yX11_follows), (1239, .methodLink RL 34 yX11_exposed), (1240, .instanceMethod yX11_exposed), (1241, .selects RX11 yX11_exposed yX11_exposed), (1250, .methodLink RL 38 yX11_paper), (1251, .instanceMethod yX11_paper), (1252, .selects RX11 yX11_paper yX11_paper), (1261, .methodLink RL 41 yX11_felt), (1262, .instanceMethod yX11_felt), (1263, .selects RX11 yX11_felt yX11_felt)]
set_option maxRecDepth 100000 in
theorem xK0 : ∀ q ∈ xL0, lw_tbl[q.1]? = some q.2 ∧ goodWord q.2 = true := by decide +kernel
theorem x0 : .methodLink RL 7 yX11_coast ∈ zTg := zin_of (xK0 _ (List.mem_of_getElem? (i := 0) (show xL0[0]? = some (807, .methodLink RL 7 yX11_coast) from rfl)))
theorem x1 : .instanceMethod yX11_coast ∈ zTg := zin_of (xK0 _ (List.mem_of_getElem? (i := 1) (show xL0[1]? = some (808, .instanceMethod yX11_coast) from rfl)))
theorem x2 : .selects RX11 yX11_coast yX11_coast ∈ zTg := zin_of (xK0 _ (List.mem_of_getElem? (i := 2) (show xL0[2]? = some (809, .selects RX11 yX11_coast yX11_coast) from rfl)))
theorem x3 : .methodLink RL 17 yX11_law ∈ zTg := zin_of (xK0 _ (List.mem_of_getElem? (i := 3) (show xL0[3]? = some (1088, .methodLink RL 17 yX11_law) from rfl)))
theorem x4 : .instanceMethod yX11_law ∈ zTg := zin_of (xK0 _ (List.mem_of_getElem? (i := 4) (show xL0[4]? = some (1089, .instanceMethod yX11_law) from rfl)))
theorem x5 : .selects RX11 yX11_law yX11_law ∈ zTg := zin_of (xK0 _ (List.mem_of_getElem? (i := 5) (show xL0[5]? = some (1090, .selects RX11 yX11_law yX11_law) from rfl)))
theorem x6 : .methodLink RL 20 yX11_member ∈ zTg := zin_of (xK0 _ (List.mem_of_getElem? (i := 6) (show xL0[6]? = some (1166, .methodLink RL 20 yX11_member) from rfl)))
theorem x7 : .instanceMethod yX11_member ∈ zTg := zin_of (xK0 _ (List.mem_of_getElem? (i := 7) (show xL0[7]? = some (1167, .instanceMethod yX11_member) from rfl)))
theorem x8 : .selects RX11 yX11_member yX11_member ∈ zTg := zin_of (xK0 _ (List.mem_of_getElem? (i := 8) (show xL0[8]? = some (1168, .selects RX11 yX11_member yX11_member) from rfl)))
theorem x9 : .methodLink RL 28 yX11_motion ∈ zTg := zin_of (xK0 _ (List.mem_of_getElem? (i := 9) (show xL0[9]? = some (1214, .methodLink RL 28 yX11_motion) from rfl)))
theorem x10 : .instanceMethod yX11_motion ∈ zTg := zin_of (xK0 _ (List.mem_of_getElem? (i := 10) (show xL0[10]? = some (1215, .instanceMethod yX11_motion) from rfl)))
theorem x11 : .selects RX11 yX11_motion yX11_motion ∈ zTg := zin_of (xK0 _ (List.mem_of_getElem? (i := 11) (show xL0[11]? = some (1216, .selects RX11 yX11_motion yX11_motion) from rfl)))
theorem x12 : .methodLink RL 31 yX11_follows ∈ zTg := zin_of (xK0 _ (List.mem_of_getElem? (i := 12) (show xL0[12]? = some (1228, .methodLink RL 31 yX11_follows) from rfl)))
theorem x13 : .instanceMethod yX11_follows ∈ zTg := zin_of (xK0 _ (List.mem_of_getElem? (i := 13) (show xL0[13]? = some (1229, .instanceMethod yX11_follows) from rfl)))
theorem x14 : .selects RX11 yX11_follows yX11_follows ∈ zTg := zin_of (xK0 _ (List.mem_of_getElem? (i := 14) (show xL0[14]? = some (1230, .selects RX11 yX11_follows yX11_follows) from rfl)))
theorem x15 : .methodLink RL 34 yX11_exposed ∈ zTg := zin_of (xK0 _ (List.mem_of_getElem? (i := 15) (show xL0[15]? = some (1239, .methodLink RL 34 yX11_exposed) from rfl)))
theorem x16 : .instanceMethod yX11_exposed ∈ zTg := zin_of (xK0 _ (List.mem_of_getElem? (i := 16) (show xL0[16]? = some (1240, .instanceMethod yX11_exposed) from rfl)))
theorem x17 : .selects RX11 yX11_exposed yX11_exposed ∈ zTg := zin_of (xK0 _ (List.mem_of_getElem? (i := 17) (show xL0[17]? = some (1241, .selects RX11 yX11_exposed yX11_exposed) from rfl)))
theorem x18 : .methodLink RL 38 yX11_paper ∈ zTg := zin_of (xK0 _ (List.mem_of_getElem? (i := 18) (show xL0[18]? = some (1250, .methodLink RL 38 yX11_paper) from rfl)))
theorem x19 : .instanceMethod yX11_paper ∈ zTg := zin_of (xK0 _ (List.mem_of_getElem? (i := 19) (show xL0[19]? = some (1251, .instanceMethod yX11_paper) from rfl)))
theorem x20 : .selects RX11 yX11_paper yX11_paper ∈ zTg := zin_of (xK0 _ (List.mem_of_getElem? (i := 20) (show xL0[20]? = some (1252, .selects RX11 yX11_paper yX11_paper) from rfl)))
theorem x21 : .methodLink RL 41 yX11_felt ∈ zTg := zin_of (xK0 _ (List.mem_of_getElem? (i := 21) (show xL0[21]? = some (1261, .methodLink RL 41 yX11_felt) from rfl)))
theorem x22 : .instanceMethod yX11_felt ∈ zTg := zin_of (xK0 _ (List.mem_of_getElem? (i := 22) (show xL0[22]? = some (1262, .instanceMethod yX11_felt) from rfl)))
theorem x23 : .selects RX11 yX11_felt yX11_felt ∈ zTg := zin_of (xK0 _ (List.mem_of_getElem? (i := 23) (show xL0[23]? = some (1263, .selects RX11 yX11_felt yX11_felt) from rfl)))
def xL1 : List (Nat × Cond) := [(1268, .methodLink RL 45 yX11_goes), (1269, .instanceMethod yX11_goes), (1270, .selects RX11 yX11_goes yX11_goes), (1276, .methodLink RL 48 yX11_hours), (1277, .instanceMethod yX11_hours), (1278, .selects RX11 yX11_hours yX11_hours), (1310, .methodLink RL 51 yX11_table), (1311, .instanceMethod yX11_table), (1312, .selects RX11 yX11_table yX11_table), (1342, .methodLink RL 56 yX11_clear), (1343, .instanceMethod yX11_clear), (1344, .selects RX11 yX11_clear yX11_clear), (1350, .methodLink RL 59 yX11_hat), (1351, .instanceMethod yX11_hat), (1352, .selects RX11 yX11_hat yX11_hat), (1358, .methodLink RL 63 yX11_out), (1359, .instanceMethod yX11_out), (1360, .selects RX11 yX11_out yX11_out), (1365, .methodLink RL 66 yX11_walk), (1366, .instanceMethod yX11_walk), (1367, .selects RX11 yX11_walk yX11_walk), (1372, .methodLink RL 69 yX11_mind), (1373, .instanceMethod yX11_mind), (1374, .selects RX11 yX11_mind yX11_mind)]
set_option maxRecDepth 100000 in
theorem xK1 : ∀ q ∈ xL1, lw_tbl[q.1]? = some q.2 ∧ goodWord q.2 = true := by decide +kernel
theorem x24 : .methodLink RL 45 yX11_goes ∈ zTg := zin_of (xK1 _ (List.mem_of_getElem? (i := 0) (show xL1[0]? = some (1268, .methodLink RL 45 yX11_goes) from rfl)))
theorem x25 : .instanceMethod yX11_goes ∈ zTg := zin_of (xK1 _ (List.mem_of_getElem? (i := 1) (show xL1[1]? = some (1269, .instanceMethod yX11_goes) from rfl)))
theorem x26 : .selects RX11 yX11_goes yX11_goes ∈ zTg := zin_of (xK1 _ (List.mem_of_getElem? (i := 2) (show xL1[2]? = some (1270, .selects RX11 yX11_goes yX11_goes) from rfl)))
theorem x27 : .methodLink RL 48 yX11_hours ∈ zTg := zin_of (xK1 _ (List.mem_of_getElem? (i := 3) (show xL1[3]? = some (1276, .methodLink RL 48 yX11_hours) from rfl)))
theorem x28 : .instanceMethod yX11_hours ∈ zTg := zin_of (xK1 _ (List.mem_of_getElem? (i := 4) (show xL1[4]? = some (1277, .instanceMethod yX11_hours) from rfl)))
theorem x29 : .selects RX11 yX11_hours yX11_hours ∈ zTg := zin_of (xK1 _ (List.mem_of_getElem? (i := 5) (show xL1[5]? = some (1278, .selects RX11 yX11_hours yX11_hours) from rfl)))
theorem x30 : .methodLink RL 51 yX11_table ∈ zTg := zin_of (xK1 _ (List.mem_of_getElem? (i := 6) (show xL1[6]? = some (1310, .methodLink RL 51 yX11_table) from rfl)))
theorem x31 : .instanceMethod yX11_table ∈ zTg := zin_of (xK1 _ (List.mem_of_getElem? (i := 7) (show xL1[7]? = some (1311, .instanceMethod yX11_table) from rfl)))
theorem x32 : .selects RX11 yX11_table yX11_table ∈ zTg := zin_of (xK1 _ (List.mem_of_getElem? (i := 8) (show xL1[8]? = some (1312, .selects RX11 yX11_table yX11_table) from rfl)))
theorem x33 : .methodLink RL 56 yX11_clear ∈ zTg := zin_of (xK1 _ (List.mem_of_getElem? (i := 9) (show xL1[9]? = some (1342, .methodLink RL 56 yX11_clear) from rfl)))
theorem x34 : .instanceMethod yX11_clear ∈ zTg := zin_of (xK1 _ (List.mem_of_getElem? (i := 10) (show xL1[10]? = some (1343, .instanceMethod yX11_clear) from rfl)))
theorem x35 : .selects RX11 yX11_clear yX11_clear ∈ zTg := zin_of (xK1 _ (List.mem_of_getElem? (i := 11) (show xL1[11]? = some (1344, .selects RX11 yX11_clear yX11_clear) from rfl)))
theorem x36 : .methodLink RL 59 yX11_hat ∈ zTg := zin_of (xK1 _ (List.mem_of_getElem? (i := 12) (show xL1[12]? = some (1350, .methodLink RL 59 yX11_hat) from rfl)))
theorem x37 : .instanceMethod yX11_hat ∈ zTg := zin_of (xK1 _ (List.mem_of_getElem? (i := 13) (show xL1[13]? = some (1351, .instanceMethod yX11_hat) from rfl)))
theorem x38 : .selects RX11 yX11_hat yX11_hat ∈ zTg := zin_of (xK1 _ (List.mem_of_getElem? (i := 14) (show xL1[14]? = some (1352, .selects RX11 yX11_hat yX11_hat) from rfl)))
theorem x39 : .methodLink RL 63 yX11_out ∈ zTg := zin_of (xK1 _ (List.mem_of_getElem? (i := 15) (show xL1[15]? = some (1358, .methodLink RL 63 yX11_out) from rfl)))
theorem x40 : .instanceMethod yX11_out ∈ zTg := zin_of (xK1 _ (List.mem_of_getElem? (i := 16) (show xL1[16]? = some (1359, .instanceMethod yX11_out) from rfl)))
theorem x41 : .selects RX11 yX11_out yX11_out ∈ zTg := zin_of (xK1 _ (List.mem_of_getElem? (i := 17) (show xL1[17]? = some (1360, .selects RX11 yX11_out yX11_out) from rfl)))
theorem x42 : .methodLink RL 66 yX11_walk ∈ zTg := zin_of (xK1 _ (List.mem_of_getElem? (i := 18) (show xL1[18]? = some (1365, .methodLink RL 66 yX11_walk) from rfl)))
theorem x43 : .instanceMethod yX11_walk ∈ zTg := zin_of (xK1 _ (List.mem_of_getElem? (i := 19) (show xL1[19]? = some (1366, .instanceMethod yX11_walk) from rfl)))
theorem x44 : .selects RX11 yX11_walk yX11_walk ∈ zTg := zin_of (xK1 _ (List.mem_of_getElem? (i := 20) (show xL1[20]? = some (1367, .selects RX11 yX11_walk yX11_walk) from rfl)))
theorem x45 : .methodLink RL 69 yX11_mind ∈ zTg := zin_of (xK1 _ (List.mem_of_getElem? (i := 21) (show xL1[21]? = some (1372, .methodLink RL 69 yX11_mind) from rfl)))
theorem x46 : .instanceMethod yX11_mind ∈ zTg := zin_of (xK1 _ (List.mem_of_getElem? (i := 22) (show xL1[22]? = some (1373, .instanceMethod yX11_mind) from rfl)))
theorem x47 : .selects RX11 yX11_mind yX11_mind ∈ zTg := zin_of (xK1 _ (List.mem_of_getElem? (i := 23) (show xL1[23]? = some (1374, .selects RX11 yX11_mind yX11_mind) from rfl)))
def xL2 : List (Nat × Cond) := [(1379, .methodLink RL 73 yX11_seat), (1380, .instanceMethod yX11_seat), (1381, .selects RX11 yX11_seat yX11_seat), (1386, .methodLink RL 76 yX11_renew), (1387, .instanceMethod yX11_renew), (1388, .selects RX11 yX11_renew yX11_renew), (1394, .methodLink RL 79 yX11_chance), (1395, .instanceMethod yX11_chance), (1396, .selects RX11 yX11_chance yX11_chance), (1403, .methodLink RL 82 yX11_carries), (1404, .instanceMethod yX11_carries), (1405, .selects RX11 yX11_carries yX11_carries), (1418, .methodLink RL 85 yX11_soonest), (1419, .instanceMethod yX11_soonest), (1420, .selects RX11 yX11_soonest yX11_soonest), (1425, .methodLink RL 88 yX11_when), (1426, .instanceMethod yX11_when), (1427, .selects RX11 yX11_when yX11_when), (1432, .methodLink RL 91 yX11_best), (1433, .instanceMethod yX11_best), (1434, .selects RX11 yX11_best yX11_best), (1471, .methodLink RL 94 yX11_shower), (1472, .instanceMethod yX11_shower), (1473, .selects RX11 yX11_shower yX11_shower)]
set_option maxRecDepth 100000 in
theorem xK2 : ∀ q ∈ xL2, lw_tbl[q.1]? = some q.2 ∧ goodWord q.2 = true := by decide +kernel
theorem x48 : .methodLink RL 73 yX11_seat ∈ zTg := zin_of (xK2 _ (List.mem_of_getElem? (i := 0) (show xL2[0]? = some (1379, .methodLink RL 73 yX11_seat) from rfl)))
theorem x49 : .instanceMethod yX11_seat ∈ zTg := zin_of (xK2 _ (List.mem_of_getElem? (i := 1) (show xL2[1]? = some (1380, .instanceMethod yX11_seat) from rfl)))
theorem x50 : .selects RX11 yX11_seat yX11_seat ∈ zTg := zin_of (xK2 _ (List.mem_of_getElem? (i := 2) (show xL2[2]? = some (1381, .selects RX11 yX11_seat yX11_seat) from rfl)))
theorem x51 : .methodLink RL 76 yX11_renew ∈ zTg := zin_of (xK2 _ (List.mem_of_getElem? (i := 3) (show xL2[3]? = some (1386, .methodLink RL 76 yX11_renew) from rfl)))
theorem x52 : .instanceMethod yX11_renew ∈ zTg := zin_of (xK2 _ (List.mem_of_getElem? (i := 4) (show xL2[4]? = some (1387, .instanceMethod yX11_renew) from rfl)))
theorem x53 : .selects RX11 yX11_renew yX11_renew ∈ zTg := zin_of (xK2 _ (List.mem_of_getElem? (i := 5) (show xL2[5]? = some (1388, .selects RX11 yX11_renew yX11_renew) from rfl)))
theorem x54 : .methodLink RL 79 yX11_chance ∈ zTg := zin_of (xK2 _ (List.mem_of_getElem? (i := 6) (show xL2[6]? = some (1394, .methodLink RL 79 yX11_chance) from rfl)))
theorem x55 : .instanceMethod yX11_chance ∈ zTg := zin_of (xK2 _ (List.mem_of_getElem? (i := 7) (show xL2[7]? = some (1395, .instanceMethod yX11_chance) from rfl)))
theorem x56 : .selects RX11 yX11_chance yX11_chance ∈ zTg := zin_of (xK2 _ (List.mem_of_getElem? (i := 8) (show xL2[8]? = some (1396, .selects RX11 yX11_chance yX11_chance) from rfl)))
theorem x57 : .methodLink RL 82 yX11_carries ∈ zTg := zin_of (xK2 _ (List.mem_of_getElem? (i := 9) (show xL2[9]? = some (1403, .methodLink RL 82 yX11_carries) from rfl)))
theorem x58 : .instanceMethod yX11_carries ∈ zTg := zin_of (xK2 _ (List.mem_of_getElem? (i := 10) (show xL2[10]? = some (1404, .instanceMethod yX11_carries) from rfl)))
theorem x59 : .selects RX11 yX11_carries yX11_carries ∈ zTg := zin_of (xK2 _ (List.mem_of_getElem? (i := 11) (show xL2[11]? = some (1405, .selects RX11 yX11_carries yX11_carries) from rfl)))
theorem x60 : .methodLink RL 85 yX11_soonest ∈ zTg := zin_of (xK2 _ (List.mem_of_getElem? (i := 12) (show xL2[12]? = some (1418, .methodLink RL 85 yX11_soonest) from rfl)))
theorem x61 : .instanceMethod yX11_soonest ∈ zTg := zin_of (xK2 _ (List.mem_of_getElem? (i := 13) (show xL2[13]? = some (1419, .instanceMethod yX11_soonest) from rfl)))
theorem x62 : .selects RX11 yX11_soonest yX11_soonest ∈ zTg := zin_of (xK2 _ (List.mem_of_getElem? (i := 14) (show xL2[14]? = some (1420, .selects RX11 yX11_soonest yX11_soonest) from rfl)))
theorem x63 : .methodLink RL 88 yX11_when ∈ zTg := zin_of (xK2 _ (List.mem_of_getElem? (i := 15) (show xL2[15]? = some (1425, .methodLink RL 88 yX11_when) from rfl)))
theorem x64 : .instanceMethod yX11_when ∈ zTg := zin_of (xK2 _ (List.mem_of_getElem? (i := 16) (show xL2[16]? = some (1426, .instanceMethod yX11_when) from rfl)))
theorem x65 : .selects RX11 yX11_when yX11_when ∈ zTg := zin_of (xK2 _ (List.mem_of_getElem? (i := 17) (show xL2[17]? = some (1427, .selects RX11 yX11_when yX11_when) from rfl)))
theorem x66 : .methodLink RL 91 yX11_best ∈ zTg := zin_of (xK2 _ (List.mem_of_getElem? (i := 18) (show xL2[18]? = some (1432, .methodLink RL 91 yX11_best) from rfl)))
theorem x67 : .instanceMethod yX11_best ∈ zTg := zin_of (xK2 _ (List.mem_of_getElem? (i := 19) (show xL2[19]? = some (1433, .instanceMethod yX11_best) from rfl)))
theorem x68 : .selects RX11 yX11_best yX11_best ∈ zTg := zin_of (xK2 _ (List.mem_of_getElem? (i := 20) (show xL2[20]? = some (1434, .selects RX11 yX11_best yX11_best) from rfl)))
theorem x69 : .methodLink RL 94 yX11_shower ∈ zTg := zin_of (xK2 _ (List.mem_of_getElem? (i := 21) (show xL2[21]? = some (1471, .methodLink RL 94 yX11_shower) from rfl)))
theorem x70 : .instanceMethod yX11_shower ∈ zTg := zin_of (xK2 _ (List.mem_of_getElem? (i := 22) (show xL2[22]? = some (1472, .instanceMethod yX11_shower) from rfl)))
theorem x71 : .selects RX11 yX11_shower yX11_shower ∈ zTg := zin_of (xK2 _ (List.mem_of_getElem? (i := 23) (show xL2[23]? = some (1473, .selects RX11 yX11_shower yX11_shower) from rfl)))
def xL3 : List (Nat × Cond) := [(1482, .methodLink RL 98 yX11_cuffs), (1483, .instanceMethod yX11_cuffs), (1484, .selects RX11 yX11_cuffs yX11_cuffs), (1518, .methodLink RL 102 yX11_likely), (1519, .instanceMethod yX11_likely), (1520, .selects RX11 yX11_likely yX11_likely), (1525, .methodLink RL 105 yX11_ago), (1526, .instanceMethod yX11_ago), (1527, .selects RX11 yX11_ago yX11_ago), (1532, .methodLink RL 108 yX11_ask), (1533, .instanceMethod yX11_ask), (1534, .selects RX11 yX11_ask yX11_ask), (1541, .methodLink RL 111 yX11_posts), (1542, .instanceMethod yX11_posts), (1543, .selects RX11 yX11_posts yX11_posts), (1564, .methodLink RL 114 yX11_swings), (1565, .instanceMethod yX11_swings), (1566, .selects RX11 yX11_swings yX11_swings), (1575, .methodLink RL 117 yX11_power), (1576, .instanceMethod yX11_power), (1577, .selects RX11 yX11_power yX11_power), (1582, .methodLink RL 120 yX11_minds), (1583, .instanceMethod yX11_minds), (1584, .selects RX11 yX11_minds yX11_minds)]
set_option maxRecDepth 100000 in
theorem xK3 : ∀ q ∈ xL3, lw_tbl[q.1]? = some q.2 ∧ goodWord q.2 = true := by decide +kernel
theorem x72 : .methodLink RL 98 yX11_cuffs ∈ zTg := zin_of (xK3 _ (List.mem_of_getElem? (i := 0) (show xL3[0]? = some (1482, .methodLink RL 98 yX11_cuffs) from rfl)))
theorem x73 : .instanceMethod yX11_cuffs ∈ zTg := zin_of (xK3 _ (List.mem_of_getElem? (i := 1) (show xL3[1]? = some (1483, .instanceMethod yX11_cuffs) from rfl)))
theorem x74 : .selects RX11 yX11_cuffs yX11_cuffs ∈ zTg := zin_of (xK3 _ (List.mem_of_getElem? (i := 2) (show xL3[2]? = some (1484, .selects RX11 yX11_cuffs yX11_cuffs) from rfl)))
theorem x75 : .methodLink RL 102 yX11_likely ∈ zTg := zin_of (xK3 _ (List.mem_of_getElem? (i := 3) (show xL3[3]? = some (1518, .methodLink RL 102 yX11_likely) from rfl)))
theorem x76 : .instanceMethod yX11_likely ∈ zTg := zin_of (xK3 _ (List.mem_of_getElem? (i := 4) (show xL3[4]? = some (1519, .instanceMethod yX11_likely) from rfl)))
theorem x77 : .selects RX11 yX11_likely yX11_likely ∈ zTg := zin_of (xK3 _ (List.mem_of_getElem? (i := 5) (show xL3[5]? = some (1520, .selects RX11 yX11_likely yX11_likely) from rfl)))
theorem x78 : .methodLink RL 105 yX11_ago ∈ zTg := zin_of (xK3 _ (List.mem_of_getElem? (i := 6) (show xL3[6]? = some (1525, .methodLink RL 105 yX11_ago) from rfl)))
theorem x79 : .instanceMethod yX11_ago ∈ zTg := zin_of (xK3 _ (List.mem_of_getElem? (i := 7) (show xL3[7]? = some (1526, .instanceMethod yX11_ago) from rfl)))
theorem x80 : .selects RX11 yX11_ago yX11_ago ∈ zTg := zin_of (xK3 _ (List.mem_of_getElem? (i := 8) (show xL3[8]? = some (1527, .selects RX11 yX11_ago yX11_ago) from rfl)))
theorem x81 : .methodLink RL 108 yX11_ask ∈ zTg := zin_of (xK3 _ (List.mem_of_getElem? (i := 9) (show xL3[9]? = some (1532, .methodLink RL 108 yX11_ask) from rfl)))
theorem x82 : .instanceMethod yX11_ask ∈ zTg := zin_of (xK3 _ (List.mem_of_getElem? (i := 10) (show xL3[10]? = some (1533, .instanceMethod yX11_ask) from rfl)))
theorem x83 : .selects RX11 yX11_ask yX11_ask ∈ zTg := zin_of (xK3 _ (List.mem_of_getElem? (i := 11) (show xL3[11]? = some (1534, .selects RX11 yX11_ask yX11_ask) from rfl)))
theorem x84 : .methodLink RL 111 yX11_posts ∈ zTg := zin_of (xK3 _ (List.mem_of_getElem? (i := 12) (show xL3[12]? = some (1541, .methodLink RL 111 yX11_posts) from rfl)))
theorem x85 : .instanceMethod yX11_posts ∈ zTg := zin_of (xK3 _ (List.mem_of_getElem? (i := 13) (show xL3[13]? = some (1542, .instanceMethod yX11_posts) from rfl)))
theorem x86 : .selects RX11 yX11_posts yX11_posts ∈ zTg := zin_of (xK3 _ (List.mem_of_getElem? (i := 14) (show xL3[14]? = some (1543, .selects RX11 yX11_posts yX11_posts) from rfl)))
theorem x87 : .methodLink RL 114 yX11_swings ∈ zTg := zin_of (xK3 _ (List.mem_of_getElem? (i := 15) (show xL3[15]? = some (1564, .methodLink RL 114 yX11_swings) from rfl)))
theorem x88 : .instanceMethod yX11_swings ∈ zTg := zin_of (xK3 _ (List.mem_of_getElem? (i := 16) (show xL3[16]? = some (1565, .instanceMethod yX11_swings) from rfl)))
theorem x89 : .selects RX11 yX11_swings yX11_swings ∈ zTg := zin_of (xK3 _ (List.mem_of_getElem? (i := 17) (show xL3[17]? = some (1566, .selects RX11 yX11_swings yX11_swings) from rfl)))
theorem x90 : .methodLink RL 117 yX11_power ∈ zTg := zin_of (xK3 _ (List.mem_of_getElem? (i := 18) (show xL3[18]? = some (1575, .methodLink RL 117 yX11_power) from rfl)))
theorem x91 : .instanceMethod yX11_power ∈ zTg := zin_of (xK3 _ (List.mem_of_getElem? (i := 19) (show xL3[19]? = some (1576, .instanceMethod yX11_power) from rfl)))
theorem x92 : .selects RX11 yX11_power yX11_power ∈ zTg := zin_of (xK3 _ (List.mem_of_getElem? (i := 20) (show xL3[20]? = some (1577, .selects RX11 yX11_power yX11_power) from rfl)))
theorem x93 : .methodLink RL 120 yX11_minds ∈ zTg := zin_of (xK3 _ (List.mem_of_getElem? (i := 21) (show xL3[21]? = some (1582, .methodLink RL 120 yX11_minds) from rfl)))
theorem x94 : .instanceMethod yX11_minds ∈ zTg := zin_of (xK3 _ (List.mem_of_getElem? (i := 22) (show xL3[22]? = some (1583, .instanceMethod yX11_minds) from rfl)))
theorem x95 : .selects RX11 yX11_minds yX11_minds ∈ zTg := zin_of (xK3 _ (List.mem_of_getElem? (i := 23) (show xL3[23]? = some (1584, .selects RX11 yX11_minds yX11_minds) from rfl)))
def xL4 : List (Nat × Cond) := [(1591, .methodLink RL 123 yX11_bargain), (1592, .instanceMethod yX11_bargain), (1593, .selects RX11 yX11_bargain yX11_bargain), (1610, .methodLink RL 126 yX11_like), (1611, .instanceMethod yX11_like), (1612, .selects RX11 yX11_like yX11_like), (1617, .methodLink RL 129 yX11_dry), (1618, .instanceMethod yX11_dry), (1619, .selects RX11 yX11_dry yX11_dry), (1624, .methodLink RL 132 yX11_drought), (1625, .instanceMethod yX11_drought), (1626, .selects RX11 yX11_drought yX11_drought), (1631, .methodLink RL 135 yX11_rests), (1632, .instanceMethod yX11_rests), (1633, .selects RX11 yX11_rests yX11_rests), (1643, .methodLink RL 138 yX11_trial), (1644, .instanceMethod yX11_trial), (1645, .selects RX11 yX11_trial yX11_trial), (1654, .methodLink RL 141 yX11_span), (1655, .instanceMethod yX11_span), (1656, .selects RX11 yX11_span yX11_span), (1661, .methodLink RL 144 yX11_led), (1662, .instanceMethod yX11_led), (1663, .selects RX11 yX11_led yX11_led)]
set_option maxRecDepth 100000 in
theorem xK4 : ∀ q ∈ xL4, lw_tbl[q.1]? = some q.2 ∧ goodWord q.2 = true := by decide +kernel
theorem x96 : .methodLink RL 123 yX11_bargain ∈ zTg := zin_of (xK4 _ (List.mem_of_getElem? (i := 0) (show xL4[0]? = some (1591, .methodLink RL 123 yX11_bargain) from rfl)))
theorem x97 : .instanceMethod yX11_bargain ∈ zTg := zin_of (xK4 _ (List.mem_of_getElem? (i := 1) (show xL4[1]? = some (1592, .instanceMethod yX11_bargain) from rfl)))
theorem x98 : .selects RX11 yX11_bargain yX11_bargain ∈ zTg := zin_of (xK4 _ (List.mem_of_getElem? (i := 2) (show xL4[2]? = some (1593, .selects RX11 yX11_bargain yX11_bargain) from rfl)))
theorem x99 : .methodLink RL 126 yX11_like ∈ zTg := zin_of (xK4 _ (List.mem_of_getElem? (i := 3) (show xL4[3]? = some (1610, .methodLink RL 126 yX11_like) from rfl)))
theorem x100 : .instanceMethod yX11_like ∈ zTg := zin_of (xK4 _ (List.mem_of_getElem? (i := 4) (show xL4[4]? = some (1611, .instanceMethod yX11_like) from rfl)))
theorem x101 : .selects RX11 yX11_like yX11_like ∈ zTg := zin_of (xK4 _ (List.mem_of_getElem? (i := 5) (show xL4[5]? = some (1612, .selects RX11 yX11_like yX11_like) from rfl)))
theorem x102 : .methodLink RL 129 yX11_dry ∈ zTg := zin_of (xK4 _ (List.mem_of_getElem? (i := 6) (show xL4[6]? = some (1617, .methodLink RL 129 yX11_dry) from rfl)))
theorem x103 : .instanceMethod yX11_dry ∈ zTg := zin_of (xK4 _ (List.mem_of_getElem? (i := 7) (show xL4[7]? = some (1618, .instanceMethod yX11_dry) from rfl)))
theorem x104 : .selects RX11 yX11_dry yX11_dry ∈ zTg := zin_of (xK4 _ (List.mem_of_getElem? (i := 8) (show xL4[8]? = some (1619, .selects RX11 yX11_dry yX11_dry) from rfl)))
theorem x105 : .methodLink RL 132 yX11_drought ∈ zTg := zin_of (xK4 _ (List.mem_of_getElem? (i := 9) (show xL4[9]? = some (1624, .methodLink RL 132 yX11_drought) from rfl)))
theorem x106 : .instanceMethod yX11_drought ∈ zTg := zin_of (xK4 _ (List.mem_of_getElem? (i := 10) (show xL4[10]? = some (1625, .instanceMethod yX11_drought) from rfl)))
theorem x107 : .selects RX11 yX11_drought yX11_drought ∈ zTg := zin_of (xK4 _ (List.mem_of_getElem? (i := 11) (show xL4[11]? = some (1626, .selects RX11 yX11_drought yX11_drought) from rfl)))
theorem x108 : .methodLink RL 135 yX11_rests ∈ zTg := zin_of (xK4 _ (List.mem_of_getElem? (i := 12) (show xL4[12]? = some (1631, .methodLink RL 135 yX11_rests) from rfl)))
theorem x109 : .instanceMethod yX11_rests ∈ zTg := zin_of (xK4 _ (List.mem_of_getElem? (i := 13) (show xL4[13]? = some (1632, .instanceMethod yX11_rests) from rfl)))
theorem x110 : .selects RX11 yX11_rests yX11_rests ∈ zTg := zin_of (xK4 _ (List.mem_of_getElem? (i := 14) (show xL4[14]? = some (1633, .selects RX11 yX11_rests yX11_rests) from rfl)))
theorem x111 : .methodLink RL 138 yX11_trial ∈ zTg := zin_of (xK4 _ (List.mem_of_getElem? (i := 15) (show xL4[15]? = some (1643, .methodLink RL 138 yX11_trial) from rfl)))
theorem x112 : .instanceMethod yX11_trial ∈ zTg := zin_of (xK4 _ (List.mem_of_getElem? (i := 16) (show xL4[16]? = some (1644, .instanceMethod yX11_trial) from rfl)))
theorem x113 : .selects RX11 yX11_trial yX11_trial ∈ zTg := zin_of (xK4 _ (List.mem_of_getElem? (i := 17) (show xL4[17]? = some (1645, .selects RX11 yX11_trial yX11_trial) from rfl)))
theorem x114 : .methodLink RL 141 yX11_span ∈ zTg := zin_of (xK4 _ (List.mem_of_getElem? (i := 18) (show xL4[18]? = some (1654, .methodLink RL 141 yX11_span) from rfl)))
theorem x115 : .instanceMethod yX11_span ∈ zTg := zin_of (xK4 _ (List.mem_of_getElem? (i := 19) (show xL4[19]? = some (1655, .instanceMethod yX11_span) from rfl)))
theorem x116 : .selects RX11 yX11_span yX11_span ∈ zTg := zin_of (xK4 _ (List.mem_of_getElem? (i := 20) (show xL4[20]? = some (1656, .selects RX11 yX11_span yX11_span) from rfl)))
theorem x117 : .methodLink RL 144 yX11_led ∈ zTg := zin_of (xK4 _ (List.mem_of_getElem? (i := 21) (show xL4[21]? = some (1661, .methodLink RL 144 yX11_led) from rfl)))
theorem x118 : .instanceMethod yX11_led ∈ zTg := zin_of (xK4 _ (List.mem_of_getElem? (i := 22) (show xL4[22]? = some (1662, .instanceMethod yX11_led) from rfl)))
theorem x119 : .selects RX11 yX11_led yX11_led ∈ zTg := zin_of (xK4 _ (List.mem_of_getElem? (i := 23) (show xL4[23]? = some (1663, .selects RX11 yX11_led yX11_led) from rfl)))
def xL5 : List (Nat × Cond) := [(1672, .methodLink RL 147 yX11_log), (1673, .instanceMethod yX11_log), (1674, .selects RX11 yX11_log yX11_log), (152, .classLink RL 8 RX11), (153, .instantiable RX11 15), (123, .initialized RX11), (154, .methodLink RL 150 yX11_init), (155, .instanceMethod yX11_init), (1677, .classLink RL 151 RX12), (1678, .instantiable RX12 26), (136, .initialized RX12), (1679, .methodLink RL 153 yX12_init), (1680, .instanceMethod yX12_init), (548, .methodLink RL 154 yX11_feed), (549, .instanceMethod yX11_feed), (550, .selects RX11 yX11_feed yX11_feed), (1767, .methodLink RL 158 yX12_feed), (1768, .instanceMethod yX12_feed), (1769, .selects RX12 yX12_feed yX12_feed), (556, .methodLink RL 159 yX11_end), (557, .instanceMethod yX11_end), (558, .selects RX11 yX11_end yX11_end), (1771, .methodLink RL 163 yX12_end), (1772, .instanceMethod yX12_end)]
set_option maxRecDepth 100000 in
theorem xK5 : ∀ q ∈ xL5, lw_tbl[q.1]? = some q.2 ∧ goodWord q.2 = true := by decide +kernel
theorem x120 : .methodLink RL 147 yX11_log ∈ zTg := zin_of (xK5 _ (List.mem_of_getElem? (i := 0) (show xL5[0]? = some (1672, .methodLink RL 147 yX11_log) from rfl)))
theorem x121 : .instanceMethod yX11_log ∈ zTg := zin_of (xK5 _ (List.mem_of_getElem? (i := 1) (show xL5[1]? = some (1673, .instanceMethod yX11_log) from rfl)))
theorem x122 : .selects RX11 yX11_log yX11_log ∈ zTg := zin_of (xK5 _ (List.mem_of_getElem? (i := 2) (show xL5[2]? = some (1674, .selects RX11 yX11_log yX11_log) from rfl)))
theorem x123 : .classLink RL 8 RX11 ∈ zTg := zin_of (xK5 _ (List.mem_of_getElem? (i := 3) (show xL5[3]? = some (152, .classLink RL 8 RX11) from rfl)))
theorem x124 : .instantiable RX11 15 ∈ zTg := zin_of (xK5 _ (List.mem_of_getElem? (i := 4) (show xL5[4]? = some (153, .instantiable RX11 15) from rfl)))
theorem x125 : .initialized RX11 ∈ zTg := zin_of (xK5 _ (List.mem_of_getElem? (i := 5) (show xL5[5]? = some (123, .initialized RX11) from rfl)))
theorem x126 : .methodLink RL 150 yX11_init ∈ zTg := zin_of (xK5 _ (List.mem_of_getElem? (i := 6) (show xL5[6]? = some (154, .methodLink RL 150 yX11_init) from rfl)))
theorem x127 : .instanceMethod yX11_init ∈ zTg := zin_of (xK5 _ (List.mem_of_getElem? (i := 7) (show xL5[7]? = some (155, .instanceMethod yX11_init) from rfl)))
theorem x128 : .classLink RL 151 RX12 ∈ zTg := zin_of (xK5 _ (List.mem_of_getElem? (i := 8) (show xL5[8]? = some (1677, .classLink RL 151 RX12) from rfl)))
theorem x129 : .instantiable RX12 26 ∈ zTg := zin_of (xK5 _ (List.mem_of_getElem? (i := 9) (show xL5[9]? = some (1678, .instantiable RX12 26) from rfl)))
theorem x130 : .initialized RX12 ∈ zTg := zin_of (xK5 _ (List.mem_of_getElem? (i := 10) (show xL5[10]? = some (136, .initialized RX12) from rfl)))
theorem x131 : .methodLink RL 153 yX12_init ∈ zTg := zin_of (xK5 _ (List.mem_of_getElem? (i := 11) (show xL5[11]? = some (1679, .methodLink RL 153 yX12_init) from rfl)))
theorem x132 : .instanceMethod yX12_init ∈ zTg := zin_of (xK5 _ (List.mem_of_getElem? (i := 12) (show xL5[12]? = some (1680, .instanceMethod yX12_init) from rfl)))
theorem x133 : .methodLink RL 154 yX11_feed ∈ zTg := zin_of (xK5 _ (List.mem_of_getElem? (i := 13) (show xL5[13]? = some (548, .methodLink RL 154 yX11_feed) from rfl)))
theorem x134 : .instanceMethod yX11_feed ∈ zTg := zin_of (xK5 _ (List.mem_of_getElem? (i := 14) (show xL5[14]? = some (549, .instanceMethod yX11_feed) from rfl)))
theorem x135 : .selects RX11 yX11_feed yX11_feed ∈ zTg := zin_of (xK5 _ (List.mem_of_getElem? (i := 15) (show xL5[15]? = some (550, .selects RX11 yX11_feed yX11_feed) from rfl)))
theorem x136 : .methodLink RL 158 yX12_feed ∈ zTg := zin_of (xK5 _ (List.mem_of_getElem? (i := 16) (show xL5[16]? = some (1767, .methodLink RL 158 yX12_feed) from rfl)))
theorem x137 : .instanceMethod yX12_feed ∈ zTg := zin_of (xK5 _ (List.mem_of_getElem? (i := 17) (show xL5[17]? = some (1768, .instanceMethod yX12_feed) from rfl)))
theorem x138 : .selects RX12 yX12_feed yX12_feed ∈ zTg := zin_of (xK5 _ (List.mem_of_getElem? (i := 18) (show xL5[18]? = some (1769, .selects RX12 yX12_feed yX12_feed) from rfl)))
theorem x139 : .methodLink RL 159 yX11_end ∈ zTg := zin_of (xK5 _ (List.mem_of_getElem? (i := 19) (show xL5[19]? = some (556, .methodLink RL 159 yX11_end) from rfl)))
theorem x140 : .instanceMethod yX11_end ∈ zTg := zin_of (xK5 _ (List.mem_of_getElem? (i := 20) (show xL5[20]? = some (557, .instanceMethod yX11_end) from rfl)))
theorem x141 : .selects RX11 yX11_end yX11_end ∈ zTg := zin_of (xK5 _ (List.mem_of_getElem? (i := 21) (show xL5[21]? = some (558, .selects RX11 yX11_end yX11_end) from rfl)))
theorem x142 : .methodLink RL 163 yX12_end ∈ zTg := zin_of (xK5 _ (List.mem_of_getElem? (i := 22) (show xL5[22]? = some (1771, .methodLink RL 163 yX12_end) from rfl)))
theorem x143 : .instanceMethod yX12_end ∈ zTg := zin_of (xK5 _ (List.mem_of_getElem? (i := 23) (show xL5[23]? = some (1772, .instanceMethod yX12_end) from rfl)))
def xL6 : List (Nat × Cond) := [(1773, .selects RX12 yX12_end yX12_end), (803, .static yL_coast), (802, .methodLink RL 164 yL_coast), (1778, .methodLink RL 169 yX12_coast), (1779, .instanceMethod yX12_coast), (1780, .selects RX12 yX12_coast yX12_coast), (1763, .methodLink RL 170 yX12_thrown), (1764, .instanceMethod yX12_thrown), (1765, .selects RX12 yX12_thrown yX12_thrown), (1086, .static yL_law), (1085, .methodLink RL 173 yL_law), (1933, .methodLink RL 175 yX12_law), (1934, .instanceMethod yX12_law), (1935, .selects RX12 yX12_law yX12_law), (560, .methodLink RL 176 yX11_fault), (561, .instanceMethod yX11_fault), (562, .selects RX11 yX11_fault yX11_fault), (1937, .methodLink RL 179 yX12_fault), (1938, .instanceMethod yX12_fault), (1939, .selects RX12 yX12_fault yX12_fault), (1162, .static yL_member), (1161, .methodLink RL 180 yL_member), (1941, .methodLink RL 183 yX12_member), (1942, .instanceMethod yX12_member)]
set_option maxRecDepth 100000 in
theorem xK6 : ∀ q ∈ xL6, lw_tbl[q.1]? = some q.2 ∧ goodWord q.2 = true := by decide +kernel
theorem x144 : .selects RX12 yX12_end yX12_end ∈ zTg := zin_of (xK6 _ (List.mem_of_getElem? (i := 0) (show xL6[0]? = some (1773, .selects RX12 yX12_end yX12_end) from rfl)))
theorem x145 : .static yL_coast ∈ zTg := zin_of (xK6 _ (List.mem_of_getElem? (i := 1) (show xL6[1]? = some (803, .static yL_coast) from rfl)))
theorem x146 : .methodLink RL 164 yL_coast ∈ zTg := zin_of (xK6 _ (List.mem_of_getElem? (i := 2) (show xL6[2]? = some (802, .methodLink RL 164 yL_coast) from rfl)))
theorem x147 : .methodLink RL 169 yX12_coast ∈ zTg := zin_of (xK6 _ (List.mem_of_getElem? (i := 3) (show xL6[3]? = some (1778, .methodLink RL 169 yX12_coast) from rfl)))
theorem x148 : .instanceMethod yX12_coast ∈ zTg := zin_of (xK6 _ (List.mem_of_getElem? (i := 4) (show xL6[4]? = some (1779, .instanceMethod yX12_coast) from rfl)))
theorem x149 : .selects RX12 yX12_coast yX12_coast ∈ zTg := zin_of (xK6 _ (List.mem_of_getElem? (i := 5) (show xL6[5]? = some (1780, .selects RX12 yX12_coast yX12_coast) from rfl)))
theorem x150 : .methodLink RL 170 yX12_thrown ∈ zTg := zin_of (xK6 _ (List.mem_of_getElem? (i := 6) (show xL6[6]? = some (1763, .methodLink RL 170 yX12_thrown) from rfl)))
theorem x151 : .instanceMethod yX12_thrown ∈ zTg := zin_of (xK6 _ (List.mem_of_getElem? (i := 7) (show xL6[7]? = some (1764, .instanceMethod yX12_thrown) from rfl)))
theorem x152 : .selects RX12 yX12_thrown yX12_thrown ∈ zTg := zin_of (xK6 _ (List.mem_of_getElem? (i := 8) (show xL6[8]? = some (1765, .selects RX12 yX12_thrown yX12_thrown) from rfl)))
theorem x153 : .static yL_law ∈ zTg := zin_of (xK6 _ (List.mem_of_getElem? (i := 9) (show xL6[9]? = some (1086, .static yL_law) from rfl)))
theorem x154 : .methodLink RL 173 yL_law ∈ zTg := zin_of (xK6 _ (List.mem_of_getElem? (i := 10) (show xL6[10]? = some (1085, .methodLink RL 173 yL_law) from rfl)))
theorem x155 : .methodLink RL 175 yX12_law ∈ zTg := zin_of (xK6 _ (List.mem_of_getElem? (i := 11) (show xL6[11]? = some (1933, .methodLink RL 175 yX12_law) from rfl)))
theorem x156 : .instanceMethod yX12_law ∈ zTg := zin_of (xK6 _ (List.mem_of_getElem? (i := 12) (show xL6[12]? = some (1934, .instanceMethod yX12_law) from rfl)))
theorem x157 : .selects RX12 yX12_law yX12_law ∈ zTg := zin_of (xK6 _ (List.mem_of_getElem? (i := 13) (show xL6[13]? = some (1935, .selects RX12 yX12_law yX12_law) from rfl)))
theorem x158 : .methodLink RL 176 yX11_fault ∈ zTg := zin_of (xK6 _ (List.mem_of_getElem? (i := 14) (show xL6[14]? = some (560, .methodLink RL 176 yX11_fault) from rfl)))
theorem x159 : .instanceMethod yX11_fault ∈ zTg := zin_of (xK6 _ (List.mem_of_getElem? (i := 15) (show xL6[15]? = some (561, .instanceMethod yX11_fault) from rfl)))
theorem x160 : .selects RX11 yX11_fault yX11_fault ∈ zTg := zin_of (xK6 _ (List.mem_of_getElem? (i := 16) (show xL6[16]? = some (562, .selects RX11 yX11_fault yX11_fault) from rfl)))
theorem x161 : .methodLink RL 179 yX12_fault ∈ zTg := zin_of (xK6 _ (List.mem_of_getElem? (i := 17) (show xL6[17]? = some (1937, .methodLink RL 179 yX12_fault) from rfl)))
theorem x162 : .instanceMethod yX12_fault ∈ zTg := zin_of (xK6 _ (List.mem_of_getElem? (i := 18) (show xL6[18]? = some (1938, .instanceMethod yX12_fault) from rfl)))
theorem x163 : .selects RX12 yX12_fault yX12_fault ∈ zTg := zin_of (xK6 _ (List.mem_of_getElem? (i := 19) (show xL6[19]? = some (1939, .selects RX12 yX12_fault yX12_fault) from rfl)))
theorem x164 : .static yL_member ∈ zTg := zin_of (xK6 _ (List.mem_of_getElem? (i := 20) (show xL6[20]? = some (1162, .static yL_member) from rfl)))
theorem x165 : .methodLink RL 180 yL_member ∈ zTg := zin_of (xK6 _ (List.mem_of_getElem? (i := 21) (show xL6[21]? = some (1161, .methodLink RL 180 yL_member) from rfl)))
theorem x166 : .methodLink RL 183 yX12_member ∈ zTg := zin_of (xK6 _ (List.mem_of_getElem? (i := 22) (show xL6[22]? = some (1941, .methodLink RL 183 yX12_member) from rfl)))
theorem x167 : .instanceMethod yX12_member ∈ zTg := zin_of (xK6 _ (List.mem_of_getElem? (i := 23) (show xL6[23]? = some (1942, .instanceMethod yX12_member) from rfl)))
def xL7 : List (Nat × Cond) := [(1943, .selects RX12 yX12_member yX12_member), (1212, .static yL_motion), (1211, .methodLink RL 184 yL_motion), (1968, .methodLink RL 186 yX12_motion), (1969, .instanceMethod yX12_motion), (1970, .selects RX12 yX12_motion yX12_motion), (1226, .static yL_follows), (1225, .methodLink RL 187 yL_follows), (1976, .methodLink RL 189 yX12_follows), (1977, .instanceMethod yX12_follows), (1978, .selects RX12 yX12_follows yX12_follows), (1237, .static yL_exposed), (1236, .methodLink RL 190 yL_exposed), (1987, .methodLink RL 193 yX12_exposed), (1988, .instanceMethod yX12_exposed), (1989, .selects RX12 yX12_exposed yX12_exposed), (1248, .static yL_paper), (1247, .methodLink RL 194 yL_paper), (1991, .methodLink RL 196 yX12_paper), (1992, .instanceMethod yX12_paper), (1993, .selects RX12 yX12_paper yX12_paper), (1259, .static yL_felt), (1258, .methodLink RL 197 yL_felt), (1998, .methodLink RL 200 yX12_felt)]
set_option maxRecDepth 100000 in
theorem xK7 : ∀ q ∈ xL7, lw_tbl[q.1]? = some q.2 ∧ goodWord q.2 = true := by decide +kernel
theorem x168 : .selects RX12 yX12_member yX12_member ∈ zTg := zin_of (xK7 _ (List.mem_of_getElem? (i := 0) (show xL7[0]? = some (1943, .selects RX12 yX12_member yX12_member) from rfl)))
theorem x169 : .static yL_motion ∈ zTg := zin_of (xK7 _ (List.mem_of_getElem? (i := 1) (show xL7[1]? = some (1212, .static yL_motion) from rfl)))
theorem x170 : .methodLink RL 184 yL_motion ∈ zTg := zin_of (xK7 _ (List.mem_of_getElem? (i := 2) (show xL7[2]? = some (1211, .methodLink RL 184 yL_motion) from rfl)))
theorem x171 : .methodLink RL 186 yX12_motion ∈ zTg := zin_of (xK7 _ (List.mem_of_getElem? (i := 3) (show xL7[3]? = some (1968, .methodLink RL 186 yX12_motion) from rfl)))
theorem x172 : .instanceMethod yX12_motion ∈ zTg := zin_of (xK7 _ (List.mem_of_getElem? (i := 4) (show xL7[4]? = some (1969, .instanceMethod yX12_motion) from rfl)))
theorem x173 : .selects RX12 yX12_motion yX12_motion ∈ zTg := zin_of (xK7 _ (List.mem_of_getElem? (i := 5) (show xL7[5]? = some (1970, .selects RX12 yX12_motion yX12_motion) from rfl)))
theorem x174 : .static yL_follows ∈ zTg := zin_of (xK7 _ (List.mem_of_getElem? (i := 6) (show xL7[6]? = some (1226, .static yL_follows) from rfl)))
theorem x175 : .methodLink RL 187 yL_follows ∈ zTg := zin_of (xK7 _ (List.mem_of_getElem? (i := 7) (show xL7[7]? = some (1225, .methodLink RL 187 yL_follows) from rfl)))
theorem x176 : .methodLink RL 189 yX12_follows ∈ zTg := zin_of (xK7 _ (List.mem_of_getElem? (i := 8) (show xL7[8]? = some (1976, .methodLink RL 189 yX12_follows) from rfl)))
theorem x177 : .instanceMethod yX12_follows ∈ zTg := zin_of (xK7 _ (List.mem_of_getElem? (i := 9) (show xL7[9]? = some (1977, .instanceMethod yX12_follows) from rfl)))
theorem x178 : .selects RX12 yX12_follows yX12_follows ∈ zTg := zin_of (xK7 _ (List.mem_of_getElem? (i := 10) (show xL7[10]? = some (1978, .selects RX12 yX12_follows yX12_follows) from rfl)))
theorem x179 : .static yL_exposed ∈ zTg := zin_of (xK7 _ (List.mem_of_getElem? (i := 11) (show xL7[11]? = some (1237, .static yL_exposed) from rfl)))
theorem x180 : .methodLink RL 190 yL_exposed ∈ zTg := zin_of (xK7 _ (List.mem_of_getElem? (i := 12) (show xL7[12]? = some (1236, .methodLink RL 190 yL_exposed) from rfl)))
theorem x181 : .methodLink RL 193 yX12_exposed ∈ zTg := zin_of (xK7 _ (List.mem_of_getElem? (i := 13) (show xL7[13]? = some (1987, .methodLink RL 193 yX12_exposed) from rfl)))
theorem x182 : .instanceMethod yX12_exposed ∈ zTg := zin_of (xK7 _ (List.mem_of_getElem? (i := 14) (show xL7[14]? = some (1988, .instanceMethod yX12_exposed) from rfl)))
theorem x183 : .selects RX12 yX12_exposed yX12_exposed ∈ zTg := zin_of (xK7 _ (List.mem_of_getElem? (i := 15) (show xL7[15]? = some (1989, .selects RX12 yX12_exposed yX12_exposed) from rfl)))
theorem x184 : .static yL_paper ∈ zTg := zin_of (xK7 _ (List.mem_of_getElem? (i := 16) (show xL7[16]? = some (1248, .static yL_paper) from rfl)))
theorem x185 : .methodLink RL 194 yL_paper ∈ zTg := zin_of (xK7 _ (List.mem_of_getElem? (i := 17) (show xL7[17]? = some (1247, .methodLink RL 194 yL_paper) from rfl)))
theorem x186 : .methodLink RL 196 yX12_paper ∈ zTg := zin_of (xK7 _ (List.mem_of_getElem? (i := 18) (show xL7[18]? = some (1991, .methodLink RL 196 yX12_paper) from rfl)))
theorem x187 : .instanceMethod yX12_paper ∈ zTg := zin_of (xK7 _ (List.mem_of_getElem? (i := 19) (show xL7[19]? = some (1992, .instanceMethod yX12_paper) from rfl)))
theorem x188 : .selects RX12 yX12_paper yX12_paper ∈ zTg := zin_of (xK7 _ (List.mem_of_getElem? (i := 20) (show xL7[20]? = some (1993, .selects RX12 yX12_paper yX12_paper) from rfl)))
theorem x189 : .static yL_felt ∈ zTg := zin_of (xK7 _ (List.mem_of_getElem? (i := 21) (show xL7[21]? = some (1259, .static yL_felt) from rfl)))
theorem x190 : .methodLink RL 197 yL_felt ∈ zTg := zin_of (xK7 _ (List.mem_of_getElem? (i := 22) (show xL7[22]? = some (1258, .methodLink RL 197 yL_felt) from rfl)))
theorem x191 : .methodLink RL 200 yX12_felt ∈ zTg := zin_of (xK7 _ (List.mem_of_getElem? (i := 23) (show xL7[23]? = some (1998, .methodLink RL 200 yX12_felt) from rfl)))
def xL8 : List (Nat × Cond) := [(1999, .instanceMethod yX12_felt), (2000, .selects RX12 yX12_felt yX12_felt), (1266, .static yL_goes), (1265, .methodLink RL 201 yL_goes), (2016, .methodLink RL 203 yX12_goes), (2017, .instanceMethod yX12_goes), (2018, .selects RX12 yX12_goes yX12_goes), (1274, .static yL_hours), (1273, .methodLink RL 204 yL_hours), (2035, .methodLink RL 206 yX12_hours), (2036, .instanceMethod yX12_hours), (2037, .selects RX12 yX12_hours yX12_hours), (1307, .static yL_table), (1306, .methodLink RL 207 yL_table), (2068, .methodLink RL 209 yX12_table), (2069, .instanceMethod yX12_table), (2070, .selects RX12 yX12_table yX12_table), (1340, .static yL_clear), (1339, .methodLink RL 210 yL_clear), (2076, .methodLink RL 212 yX12_clear), (2077, .instanceMethod yX12_clear), (2078, .selects RX12 yX12_clear yX12_clear), (1348, .static yL_hat), (1347, .methodLink RL 213 yL_hat)]
set_option maxRecDepth 100000 in
theorem xK8 : ∀ q ∈ xL8, lw_tbl[q.1]? = some q.2 ∧ goodWord q.2 = true := by decide +kernel
theorem x192 : .instanceMethod yX12_felt ∈ zTg := zin_of (xK8 _ (List.mem_of_getElem? (i := 0) (show xL8[0]? = some (1999, .instanceMethod yX12_felt) from rfl)))
theorem x193 : .selects RX12 yX12_felt yX12_felt ∈ zTg := zin_of (xK8 _ (List.mem_of_getElem? (i := 1) (show xL8[1]? = some (2000, .selects RX12 yX12_felt yX12_felt) from rfl)))
theorem x194 : .static yL_goes ∈ zTg := zin_of (xK8 _ (List.mem_of_getElem? (i := 2) (show xL8[2]? = some (1266, .static yL_goes) from rfl)))
theorem x195 : .methodLink RL 201 yL_goes ∈ zTg := zin_of (xK8 _ (List.mem_of_getElem? (i := 3) (show xL8[3]? = some (1265, .methodLink RL 201 yL_goes) from rfl)))
theorem x196 : .methodLink RL 203 yX12_goes ∈ zTg := zin_of (xK8 _ (List.mem_of_getElem? (i := 4) (show xL8[4]? = some (2016, .methodLink RL 203 yX12_goes) from rfl)))
theorem x197 : .instanceMethod yX12_goes ∈ zTg := zin_of (xK8 _ (List.mem_of_getElem? (i := 5) (show xL8[5]? = some (2017, .instanceMethod yX12_goes) from rfl)))
theorem x198 : .selects RX12 yX12_goes yX12_goes ∈ zTg := zin_of (xK8 _ (List.mem_of_getElem? (i := 6) (show xL8[6]? = some (2018, .selects RX12 yX12_goes yX12_goes) from rfl)))
theorem x199 : .static yL_hours ∈ zTg := zin_of (xK8 _ (List.mem_of_getElem? (i := 7) (show xL8[7]? = some (1274, .static yL_hours) from rfl)))
theorem x200 : .methodLink RL 204 yL_hours ∈ zTg := zin_of (xK8 _ (List.mem_of_getElem? (i := 8) (show xL8[8]? = some (1273, .methodLink RL 204 yL_hours) from rfl)))
theorem x201 : .methodLink RL 206 yX12_hours ∈ zTg := zin_of (xK8 _ (List.mem_of_getElem? (i := 9) (show xL8[9]? = some (2035, .methodLink RL 206 yX12_hours) from rfl)))
theorem x202 : .instanceMethod yX12_hours ∈ zTg := zin_of (xK8 _ (List.mem_of_getElem? (i := 10) (show xL8[10]? = some (2036, .instanceMethod yX12_hours) from rfl)))
theorem x203 : .selects RX12 yX12_hours yX12_hours ∈ zTg := zin_of (xK8 _ (List.mem_of_getElem? (i := 11) (show xL8[11]? = some (2037, .selects RX12 yX12_hours yX12_hours) from rfl)))
theorem x204 : .static yL_table ∈ zTg := zin_of (xK8 _ (List.mem_of_getElem? (i := 12) (show xL8[12]? = some (1307, .static yL_table) from rfl)))
theorem x205 : .methodLink RL 207 yL_table ∈ zTg := zin_of (xK8 _ (List.mem_of_getElem? (i := 13) (show xL8[13]? = some (1306, .methodLink RL 207 yL_table) from rfl)))
theorem x206 : .methodLink RL 209 yX12_table ∈ zTg := zin_of (xK8 _ (List.mem_of_getElem? (i := 14) (show xL8[14]? = some (2068, .methodLink RL 209 yX12_table) from rfl)))
theorem x207 : .instanceMethod yX12_table ∈ zTg := zin_of (xK8 _ (List.mem_of_getElem? (i := 15) (show xL8[15]? = some (2069, .instanceMethod yX12_table) from rfl)))
theorem x208 : .selects RX12 yX12_table yX12_table ∈ zTg := zin_of (xK8 _ (List.mem_of_getElem? (i := 16) (show xL8[16]? = some (2070, .selects RX12 yX12_table yX12_table) from rfl)))
theorem x209 : .static yL_clear ∈ zTg := zin_of (xK8 _ (List.mem_of_getElem? (i := 17) (show xL8[17]? = some (1340, .static yL_clear) from rfl)))
theorem x210 : .methodLink RL 210 yL_clear ∈ zTg := zin_of (xK8 _ (List.mem_of_getElem? (i := 18) (show xL8[18]? = some (1339, .methodLink RL 210 yL_clear) from rfl)))
theorem x211 : .methodLink RL 212 yX12_clear ∈ zTg := zin_of (xK8 _ (List.mem_of_getElem? (i := 19) (show xL8[19]? = some (2076, .methodLink RL 212 yX12_clear) from rfl)))
theorem x212 : .instanceMethod yX12_clear ∈ zTg := zin_of (xK8 _ (List.mem_of_getElem? (i := 20) (show xL8[20]? = some (2077, .instanceMethod yX12_clear) from rfl)))
theorem x213 : .selects RX12 yX12_clear yX12_clear ∈ zTg := zin_of (xK8 _ (List.mem_of_getElem? (i := 21) (show xL8[21]? = some (2078, .selects RX12 yX12_clear yX12_clear) from rfl)))
theorem x214 : .static yL_hat ∈ zTg := zin_of (xK8 _ (List.mem_of_getElem? (i := 22) (show xL8[22]? = some (1348, .static yL_hat) from rfl)))
theorem x215 : .methodLink RL 213 yL_hat ∈ zTg := zin_of (xK8 _ (List.mem_of_getElem? (i := 23) (show xL8[23]? = some (1347, .methodLink RL 213 yL_hat) from rfl)))
def xL9 : List (Nat × Cond) := [(2080, .methodLink RL 216 yX12_hat), (2081, .instanceMethod yX12_hat), (2082, .selects RX12 yX12_hat yX12_hat), (1356, .static yL_out), (1355, .methodLink RL 217 yL_out), (2088, .methodLink RL 219 yX12_out), (2089, .instanceMethod yX12_out), (2090, .selects RX12 yX12_out yX12_out), (1363, .static yL_walk), (1362, .methodLink RL 220 yL_walk), (2092, .methodLink RL 222 yX12_walk), (2093, .instanceMethod yX12_walk), (2094, .selects RX12 yX12_walk yX12_walk), (1370, .static yL_mind), (1369, .methodLink RL 223 yL_mind), (2096, .methodLink RL 225 yX12_mind), (2097, .instanceMethod yX12_mind), (2098, .selects RX12 yX12_mind yX12_mind), (1377, .static yL_seat), (1376, .methodLink RL 226 yL_seat), (2100, .methodLink RL 228 yX12_seat), (2101, .instanceMethod yX12_seat), (2102, .selects RX12 yX12_seat yX12_seat), (1384, .static yL_renew)]
set_option maxRecDepth 100000 in
theorem xK9 : ∀ q ∈ xL9, lw_tbl[q.1]? = some q.2 ∧ goodWord q.2 = true := by decide +kernel
theorem x216 : .methodLink RL 216 yX12_hat ∈ zTg := zin_of (xK9 _ (List.mem_of_getElem? (i := 0) (show xL9[0]? = some (2080, .methodLink RL 216 yX12_hat) from rfl)))
theorem x217 : .instanceMethod yX12_hat ∈ zTg := zin_of (xK9 _ (List.mem_of_getElem? (i := 1) (show xL9[1]? = some (2081, .instanceMethod yX12_hat) from rfl)))
theorem x218 : .selects RX12 yX12_hat yX12_hat ∈ zTg := zin_of (xK9 _ (List.mem_of_getElem? (i := 2) (show xL9[2]? = some (2082, .selects RX12 yX12_hat yX12_hat) from rfl)))
theorem x219 : .static yL_out ∈ zTg := zin_of (xK9 _ (List.mem_of_getElem? (i := 3) (show xL9[3]? = some (1356, .static yL_out) from rfl)))
theorem x220 : .methodLink RL 217 yL_out ∈ zTg := zin_of (xK9 _ (List.mem_of_getElem? (i := 4) (show xL9[4]? = some (1355, .methodLink RL 217 yL_out) from rfl)))
theorem x221 : .methodLink RL 219 yX12_out ∈ zTg := zin_of (xK9 _ (List.mem_of_getElem? (i := 5) (show xL9[5]? = some (2088, .methodLink RL 219 yX12_out) from rfl)))
theorem x222 : .instanceMethod yX12_out ∈ zTg := zin_of (xK9 _ (List.mem_of_getElem? (i := 6) (show xL9[6]? = some (2089, .instanceMethod yX12_out) from rfl)))
theorem x223 : .selects RX12 yX12_out yX12_out ∈ zTg := zin_of (xK9 _ (List.mem_of_getElem? (i := 7) (show xL9[7]? = some (2090, .selects RX12 yX12_out yX12_out) from rfl)))
theorem x224 : .static yL_walk ∈ zTg := zin_of (xK9 _ (List.mem_of_getElem? (i := 8) (show xL9[8]? = some (1363, .static yL_walk) from rfl)))
theorem x225 : .methodLink RL 220 yL_walk ∈ zTg := zin_of (xK9 _ (List.mem_of_getElem? (i := 9) (show xL9[9]? = some (1362, .methodLink RL 220 yL_walk) from rfl)))
theorem x226 : .methodLink RL 222 yX12_walk ∈ zTg := zin_of (xK9 _ (List.mem_of_getElem? (i := 10) (show xL9[10]? = some (2092, .methodLink RL 222 yX12_walk) from rfl)))
theorem x227 : .instanceMethod yX12_walk ∈ zTg := zin_of (xK9 _ (List.mem_of_getElem? (i := 11) (show xL9[11]? = some (2093, .instanceMethod yX12_walk) from rfl)))
theorem x228 : .selects RX12 yX12_walk yX12_walk ∈ zTg := zin_of (xK9 _ (List.mem_of_getElem? (i := 12) (show xL9[12]? = some (2094, .selects RX12 yX12_walk yX12_walk) from rfl)))
theorem x229 : .static yL_mind ∈ zTg := zin_of (xK9 _ (List.mem_of_getElem? (i := 13) (show xL9[13]? = some (1370, .static yL_mind) from rfl)))
theorem x230 : .methodLink RL 223 yL_mind ∈ zTg := zin_of (xK9 _ (List.mem_of_getElem? (i := 14) (show xL9[14]? = some (1369, .methodLink RL 223 yL_mind) from rfl)))
theorem x231 : .methodLink RL 225 yX12_mind ∈ zTg := zin_of (xK9 _ (List.mem_of_getElem? (i := 15) (show xL9[15]? = some (2096, .methodLink RL 225 yX12_mind) from rfl)))
theorem x232 : .instanceMethod yX12_mind ∈ zTg := zin_of (xK9 _ (List.mem_of_getElem? (i := 16) (show xL9[16]? = some (2097, .instanceMethod yX12_mind) from rfl)))
theorem x233 : .selects RX12 yX12_mind yX12_mind ∈ zTg := zin_of (xK9 _ (List.mem_of_getElem? (i := 17) (show xL9[17]? = some (2098, .selects RX12 yX12_mind yX12_mind) from rfl)))
theorem x234 : .static yL_seat ∈ zTg := zin_of (xK9 _ (List.mem_of_getElem? (i := 18) (show xL9[18]? = some (1377, .static yL_seat) from rfl)))
theorem x235 : .methodLink RL 226 yL_seat ∈ zTg := zin_of (xK9 _ (List.mem_of_getElem? (i := 19) (show xL9[19]? = some (1376, .methodLink RL 226 yL_seat) from rfl)))
theorem x236 : .methodLink RL 228 yX12_seat ∈ zTg := zin_of (xK9 _ (List.mem_of_getElem? (i := 20) (show xL9[20]? = some (2100, .methodLink RL 228 yX12_seat) from rfl)))
theorem x237 : .instanceMethod yX12_seat ∈ zTg := zin_of (xK9 _ (List.mem_of_getElem? (i := 21) (show xL9[21]? = some (2101, .instanceMethod yX12_seat) from rfl)))
theorem x238 : .selects RX12 yX12_seat yX12_seat ∈ zTg := zin_of (xK9 _ (List.mem_of_getElem? (i := 22) (show xL9[22]? = some (2102, .selects RX12 yX12_seat yX12_seat) from rfl)))
theorem x239 : .static yL_renew ∈ zTg := zin_of (xK9 _ (List.mem_of_getElem? (i := 23) (show xL9[23]? = some (1384, .static yL_renew) from rfl)))
def xL10 : List (Nat × Cond) := [(1383, .methodLink RL 229 yL_renew), (2104, .methodLink RL 231 yX12_renew), (2105, .instanceMethod yX12_renew), (2106, .selects RX12 yX12_renew yX12_renew), (1392, .static yL_chance), (1391, .methodLink RL 232 yL_chance), (2108, .methodLink RL 234 yX12_chance), (2109, .instanceMethod yX12_chance), (2110, .selects RX12 yX12_chance yX12_chance), (1401, .static yL_carries), (1400, .methodLink RL 235 yL_carries), (2124, .methodLink RL 237 yX12_carries), (2125, .instanceMethod yX12_carries), (2126, .selects RX12 yX12_carries yX12_carries), (1416, .static yL_soonest), (1415, .methodLink RL 238 yL_soonest), (2132, .methodLink RL 240 yX12_soonest), (2133, .instanceMethod yX12_soonest), (2134, .selects RX12 yX12_soonest yX12_soonest), (1423, .static yL_when), (1422, .methodLink RL 241 yL_when), (2136, .methodLink RL 243 yX12_when), (2137, .instanceMethod yX12_when), (2138, .selects RX12 yX12_when yX12_when)]
set_option maxRecDepth 100000 in
theorem xK10 : ∀ q ∈ xL10, lw_tbl[q.1]? = some q.2 ∧ goodWord q.2 = true := by decide +kernel
theorem x240 : .methodLink RL 229 yL_renew ∈ zTg := zin_of (xK10 _ (List.mem_of_getElem? (i := 0) (show xL10[0]? = some (1383, .methodLink RL 229 yL_renew) from rfl)))
theorem x241 : .methodLink RL 231 yX12_renew ∈ zTg := zin_of (xK10 _ (List.mem_of_getElem? (i := 1) (show xL10[1]? = some (2104, .methodLink RL 231 yX12_renew) from rfl)))
theorem x242 : .instanceMethod yX12_renew ∈ zTg := zin_of (xK10 _ (List.mem_of_getElem? (i := 2) (show xL10[2]? = some (2105, .instanceMethod yX12_renew) from rfl)))
theorem x243 : .selects RX12 yX12_renew yX12_renew ∈ zTg := zin_of (xK10 _ (List.mem_of_getElem? (i := 3) (show xL10[3]? = some (2106, .selects RX12 yX12_renew yX12_renew) from rfl)))
theorem x244 : .static yL_chance ∈ zTg := zin_of (xK10 _ (List.mem_of_getElem? (i := 4) (show xL10[4]? = some (1392, .static yL_chance) from rfl)))
theorem x245 : .methodLink RL 232 yL_chance ∈ zTg := zin_of (xK10 _ (List.mem_of_getElem? (i := 5) (show xL10[5]? = some (1391, .methodLink RL 232 yL_chance) from rfl)))
theorem x246 : .methodLink RL 234 yX12_chance ∈ zTg := zin_of (xK10 _ (List.mem_of_getElem? (i := 6) (show xL10[6]? = some (2108, .methodLink RL 234 yX12_chance) from rfl)))
theorem x247 : .instanceMethod yX12_chance ∈ zTg := zin_of (xK10 _ (List.mem_of_getElem? (i := 7) (show xL10[7]? = some (2109, .instanceMethod yX12_chance) from rfl)))
theorem x248 : .selects RX12 yX12_chance yX12_chance ∈ zTg := zin_of (xK10 _ (List.mem_of_getElem? (i := 8) (show xL10[8]? = some (2110, .selects RX12 yX12_chance yX12_chance) from rfl)))
theorem x249 : .static yL_carries ∈ zTg := zin_of (xK10 _ (List.mem_of_getElem? (i := 9) (show xL10[9]? = some (1401, .static yL_carries) from rfl)))
theorem x250 : .methodLink RL 235 yL_carries ∈ zTg := zin_of (xK10 _ (List.mem_of_getElem? (i := 10) (show xL10[10]? = some (1400, .methodLink RL 235 yL_carries) from rfl)))
theorem x251 : .methodLink RL 237 yX12_carries ∈ zTg := zin_of (xK10 _ (List.mem_of_getElem? (i := 11) (show xL10[11]? = some (2124, .methodLink RL 237 yX12_carries) from rfl)))
theorem x252 : .instanceMethod yX12_carries ∈ zTg := zin_of (xK10 _ (List.mem_of_getElem? (i := 12) (show xL10[12]? = some (2125, .instanceMethod yX12_carries) from rfl)))
theorem x253 : .selects RX12 yX12_carries yX12_carries ∈ zTg := zin_of (xK10 _ (List.mem_of_getElem? (i := 13) (show xL10[13]? = some (2126, .selects RX12 yX12_carries yX12_carries) from rfl)))
theorem x254 : .static yL_soonest ∈ zTg := zin_of (xK10 _ (List.mem_of_getElem? (i := 14) (show xL10[14]? = some (1416, .static yL_soonest) from rfl)))
theorem x255 : .methodLink RL 238 yL_soonest ∈ zTg := zin_of (xK10 _ (List.mem_of_getElem? (i := 15) (show xL10[15]? = some (1415, .methodLink RL 238 yL_soonest) from rfl)))
theorem x256 : .methodLink RL 240 yX12_soonest ∈ zTg := zin_of (xK10 _ (List.mem_of_getElem? (i := 16) (show xL10[16]? = some (2132, .methodLink RL 240 yX12_soonest) from rfl)))
theorem x257 : .instanceMethod yX12_soonest ∈ zTg := zin_of (xK10 _ (List.mem_of_getElem? (i := 17) (show xL10[17]? = some (2133, .instanceMethod yX12_soonest) from rfl)))
theorem x258 : .selects RX12 yX12_soonest yX12_soonest ∈ zTg := zin_of (xK10 _ (List.mem_of_getElem? (i := 18) (show xL10[18]? = some (2134, .selects RX12 yX12_soonest yX12_soonest) from rfl)))
theorem x259 : .static yL_when ∈ zTg := zin_of (xK10 _ (List.mem_of_getElem? (i := 19) (show xL10[19]? = some (1423, .static yL_when) from rfl)))
theorem x260 : .methodLink RL 241 yL_when ∈ zTg := zin_of (xK10 _ (List.mem_of_getElem? (i := 20) (show xL10[20]? = some (1422, .methodLink RL 241 yL_when) from rfl)))
theorem x261 : .methodLink RL 243 yX12_when ∈ zTg := zin_of (xK10 _ (List.mem_of_getElem? (i := 21) (show xL10[21]? = some (2136, .methodLink RL 243 yX12_when) from rfl)))
theorem x262 : .instanceMethod yX12_when ∈ zTg := zin_of (xK10 _ (List.mem_of_getElem? (i := 22) (show xL10[22]? = some (2137, .instanceMethod yX12_when) from rfl)))
theorem x263 : .selects RX12 yX12_when yX12_when ∈ zTg := zin_of (xK10 _ (List.mem_of_getElem? (i := 23) (show xL10[23]? = some (2138, .selects RX12 yX12_when yX12_when) from rfl)))
def xL11 : List (Nat × Cond) := [(564, .methodLink RL 244 yX11_worst), (565, .instanceMethod yX11_worst), (566, .selects RX11 yX11_worst yX11_worst), (2140, .methodLink RL 247 yX12_worst), (2141, .instanceMethod yX12_worst), (2142, .selects RX12 yX12_worst yX12_worst), (1430, .static yL_best), (1429, .methodLink RL 248 yL_best), (2145, .methodLink RL 250 yX12_best), (2146, .instanceMethod yX12_best), (2147, .selects RX12 yX12_best yX12_best), (1469, .static yL_shower), (1468, .methodLink RL 251 yL_shower), (2157, .methodLink RL 253 yX12_shower), (2158, .instanceMethod yX12_shower), (2159, .selects RX12 yX12_shower yX12_shower), (639, .methodLink RL 254 yX11_haste), (640, .instanceMethod yX11_haste), (641, .selects RX11 yX11_haste yX11_haste), (2169, .methodLink RL 257 yX12_haste), (2170, .instanceMethod yX12_haste), (2171, .selects RX12 yX12_haste yX12_haste), (1480, .static yL_cuffs), (1479, .methodLink RL 258 yL_cuffs)]
set_option maxRecDepth 100000 in
theorem xK11 : ∀ q ∈ xL11, lw_tbl[q.1]? = some q.2 ∧ goodWord q.2 = true := by decide +kernel
theorem x264 : .methodLink RL 244 yX11_worst ∈ zTg := zin_of (xK11 _ (List.mem_of_getElem? (i := 0) (show xL11[0]? = some (564, .methodLink RL 244 yX11_worst) from rfl)))
theorem x265 : .instanceMethod yX11_worst ∈ zTg := zin_of (xK11 _ (List.mem_of_getElem? (i := 1) (show xL11[1]? = some (565, .instanceMethod yX11_worst) from rfl)))
theorem x266 : .selects RX11 yX11_worst yX11_worst ∈ zTg := zin_of (xK11 _ (List.mem_of_getElem? (i := 2) (show xL11[2]? = some (566, .selects RX11 yX11_worst yX11_worst) from rfl)))
theorem x267 : .methodLink RL 247 yX12_worst ∈ zTg := zin_of (xK11 _ (List.mem_of_getElem? (i := 3) (show xL11[3]? = some (2140, .methodLink RL 247 yX12_worst) from rfl)))
theorem x268 : .instanceMethod yX12_worst ∈ zTg := zin_of (xK11 _ (List.mem_of_getElem? (i := 4) (show xL11[4]? = some (2141, .instanceMethod yX12_worst) from rfl)))
theorem x269 : .selects RX12 yX12_worst yX12_worst ∈ zTg := zin_of (xK11 _ (List.mem_of_getElem? (i := 5) (show xL11[5]? = some (2142, .selects RX12 yX12_worst yX12_worst) from rfl)))
theorem x270 : .static yL_best ∈ zTg := zin_of (xK11 _ (List.mem_of_getElem? (i := 6) (show xL11[6]? = some (1430, .static yL_best) from rfl)))
theorem x271 : .methodLink RL 248 yL_best ∈ zTg := zin_of (xK11 _ (List.mem_of_getElem? (i := 7) (show xL11[7]? = some (1429, .methodLink RL 248 yL_best) from rfl)))
theorem x272 : .methodLink RL 250 yX12_best ∈ zTg := zin_of (xK11 _ (List.mem_of_getElem? (i := 8) (show xL11[8]? = some (2145, .methodLink RL 250 yX12_best) from rfl)))
theorem x273 : .instanceMethod yX12_best ∈ zTg := zin_of (xK11 _ (List.mem_of_getElem? (i := 9) (show xL11[9]? = some (2146, .instanceMethod yX12_best) from rfl)))
theorem x274 : .selects RX12 yX12_best yX12_best ∈ zTg := zin_of (xK11 _ (List.mem_of_getElem? (i := 10) (show xL11[10]? = some (2147, .selects RX12 yX12_best yX12_best) from rfl)))
theorem x275 : .static yL_shower ∈ zTg := zin_of (xK11 _ (List.mem_of_getElem? (i := 11) (show xL11[11]? = some (1469, .static yL_shower) from rfl)))
theorem x276 : .methodLink RL 251 yL_shower ∈ zTg := zin_of (xK11 _ (List.mem_of_getElem? (i := 12) (show xL11[12]? = some (1468, .methodLink RL 251 yL_shower) from rfl)))
theorem x277 : .methodLink RL 253 yX12_shower ∈ zTg := zin_of (xK11 _ (List.mem_of_getElem? (i := 13) (show xL11[13]? = some (2157, .methodLink RL 253 yX12_shower) from rfl)))
theorem x278 : .instanceMethod yX12_shower ∈ zTg := zin_of (xK11 _ (List.mem_of_getElem? (i := 14) (show xL11[14]? = some (2158, .instanceMethod yX12_shower) from rfl)))
theorem x279 : .selects RX12 yX12_shower yX12_shower ∈ zTg := zin_of (xK11 _ (List.mem_of_getElem? (i := 15) (show xL11[15]? = some (2159, .selects RX12 yX12_shower yX12_shower) from rfl)))
theorem x280 : .methodLink RL 254 yX11_haste ∈ zTg := zin_of (xK11 _ (List.mem_of_getElem? (i := 16) (show xL11[16]? = some (639, .methodLink RL 254 yX11_haste) from rfl)))
theorem x281 : .instanceMethod yX11_haste ∈ zTg := zin_of (xK11 _ (List.mem_of_getElem? (i := 17) (show xL11[17]? = some (640, .instanceMethod yX11_haste) from rfl)))
theorem x282 : .selects RX11 yX11_haste yX11_haste ∈ zTg := zin_of (xK11 _ (List.mem_of_getElem? (i := 18) (show xL11[18]? = some (641, .selects RX11 yX11_haste yX11_haste) from rfl)))
theorem x283 : .methodLink RL 257 yX12_haste ∈ zTg := zin_of (xK11 _ (List.mem_of_getElem? (i := 19) (show xL11[19]? = some (2169, .methodLink RL 257 yX12_haste) from rfl)))
theorem x284 : .instanceMethod yX12_haste ∈ zTg := zin_of (xK11 _ (List.mem_of_getElem? (i := 20) (show xL11[20]? = some (2170, .instanceMethod yX12_haste) from rfl)))
theorem x285 : .selects RX12 yX12_haste yX12_haste ∈ zTg := zin_of (xK11 _ (List.mem_of_getElem? (i := 21) (show xL11[21]? = some (2171, .selects RX12 yX12_haste yX12_haste) from rfl)))
theorem x286 : .static yL_cuffs ∈ zTg := zin_of (xK11 _ (List.mem_of_getElem? (i := 22) (show xL11[22]? = some (1480, .static yL_cuffs) from rfl)))
theorem x287 : .methodLink RL 258 yL_cuffs ∈ zTg := zin_of (xK11 _ (List.mem_of_getElem? (i := 23) (show xL11[23]? = some (1479, .methodLink RL 258 yL_cuffs) from rfl)))
def xL12 : List (Nat × Cond) := [(2177, .methodLink RL 261 yX12_cuffs), (2178, .instanceMethod yX12_cuffs), (2179, .selects RX12 yX12_cuffs yX12_cuffs), (1516, .static yL_likely), (1515, .methodLink RL 262 yL_likely), (2210, .methodLink RL 264 yX12_likely), (2211, .instanceMethod yX12_likely), (2212, .selects RX12 yX12_likely yX12_likely), (1523, .static yL_ago), (1522, .methodLink RL 265 yL_ago), (2214, .methodLink RL 267 yX12_ago), (2215, .instanceMethod yX12_ago), (2216, .selects RX12 yX12_ago yX12_ago), (1530, .static yL_ask), (1529, .methodLink RL 268 yL_ask), (2218, .methodLink RL 270 yX12_ask), (2219, .instanceMethod yX12_ask), (2220, .selects RX12 yX12_ask yX12_ask), (649, .methodLink RL 271 yX11_windows), (650, .instanceMethod yX11_windows), (651, .selects RX11 yX11_windows yX11_windows), (2222, .methodLink RL 274 yX12_windows), (2223, .instanceMethod yX12_windows), (2224, .selects RX12 yX12_windows yX12_windows)]
set_option maxRecDepth 100000 in
theorem xK12 : ∀ q ∈ xL12, lw_tbl[q.1]? = some q.2 ∧ goodWord q.2 = true := by decide +kernel
theorem x288 : .methodLink RL 261 yX12_cuffs ∈ zTg := zin_of (xK12 _ (List.mem_of_getElem? (i := 0) (show xL12[0]? = some (2177, .methodLink RL 261 yX12_cuffs) from rfl)))
theorem x289 : .instanceMethod yX12_cuffs ∈ zTg := zin_of (xK12 _ (List.mem_of_getElem? (i := 1) (show xL12[1]? = some (2178, .instanceMethod yX12_cuffs) from rfl)))
theorem x290 : .selects RX12 yX12_cuffs yX12_cuffs ∈ zTg := zin_of (xK12 _ (List.mem_of_getElem? (i := 2) (show xL12[2]? = some (2179, .selects RX12 yX12_cuffs yX12_cuffs) from rfl)))
theorem x291 : .static yL_likely ∈ zTg := zin_of (xK12 _ (List.mem_of_getElem? (i := 3) (show xL12[3]? = some (1516, .static yL_likely) from rfl)))
theorem x292 : .methodLink RL 262 yL_likely ∈ zTg := zin_of (xK12 _ (List.mem_of_getElem? (i := 4) (show xL12[4]? = some (1515, .methodLink RL 262 yL_likely) from rfl)))
theorem x293 : .methodLink RL 264 yX12_likely ∈ zTg := zin_of (xK12 _ (List.mem_of_getElem? (i := 5) (show xL12[5]? = some (2210, .methodLink RL 264 yX12_likely) from rfl)))
theorem x294 : .instanceMethod yX12_likely ∈ zTg := zin_of (xK12 _ (List.mem_of_getElem? (i := 6) (show xL12[6]? = some (2211, .instanceMethod yX12_likely) from rfl)))
theorem x295 : .selects RX12 yX12_likely yX12_likely ∈ zTg := zin_of (xK12 _ (List.mem_of_getElem? (i := 7) (show xL12[7]? = some (2212, .selects RX12 yX12_likely yX12_likely) from rfl)))
theorem x296 : .static yL_ago ∈ zTg := zin_of (xK12 _ (List.mem_of_getElem? (i := 8) (show xL12[8]? = some (1523, .static yL_ago) from rfl)))
theorem x297 : .methodLink RL 265 yL_ago ∈ zTg := zin_of (xK12 _ (List.mem_of_getElem? (i := 9) (show xL12[9]? = some (1522, .methodLink RL 265 yL_ago) from rfl)))
theorem x298 : .methodLink RL 267 yX12_ago ∈ zTg := zin_of (xK12 _ (List.mem_of_getElem? (i := 10) (show xL12[10]? = some (2214, .methodLink RL 267 yX12_ago) from rfl)))
theorem x299 : .instanceMethod yX12_ago ∈ zTg := zin_of (xK12 _ (List.mem_of_getElem? (i := 11) (show xL12[11]? = some (2215, .instanceMethod yX12_ago) from rfl)))
theorem x300 : .selects RX12 yX12_ago yX12_ago ∈ zTg := zin_of (xK12 _ (List.mem_of_getElem? (i := 12) (show xL12[12]? = some (2216, .selects RX12 yX12_ago yX12_ago) from rfl)))
theorem x301 : .static yL_ask ∈ zTg := zin_of (xK12 _ (List.mem_of_getElem? (i := 13) (show xL12[13]? = some (1530, .static yL_ask) from rfl)))
theorem x302 : .methodLink RL 268 yL_ask ∈ zTg := zin_of (xK12 _ (List.mem_of_getElem? (i := 14) (show xL12[14]? = some (1529, .methodLink RL 268 yL_ask) from rfl)))
theorem x303 : .methodLink RL 270 yX12_ask ∈ zTg := zin_of (xK12 _ (List.mem_of_getElem? (i := 15) (show xL12[15]? = some (2218, .methodLink RL 270 yX12_ask) from rfl)))
theorem x304 : .instanceMethod yX12_ask ∈ zTg := zin_of (xK12 _ (List.mem_of_getElem? (i := 16) (show xL12[16]? = some (2219, .instanceMethod yX12_ask) from rfl)))
theorem x305 : .selects RX12 yX12_ask yX12_ask ∈ zTg := zin_of (xK12 _ (List.mem_of_getElem? (i := 17) (show xL12[17]? = some (2220, .selects RX12 yX12_ask yX12_ask) from rfl)))
theorem x306 : .methodLink RL 271 yX11_windows ∈ zTg := zin_of (xK12 _ (List.mem_of_getElem? (i := 18) (show xL12[18]? = some (649, .methodLink RL 271 yX11_windows) from rfl)))
theorem x307 : .instanceMethod yX11_windows ∈ zTg := zin_of (xK12 _ (List.mem_of_getElem? (i := 19) (show xL12[19]? = some (650, .instanceMethod yX11_windows) from rfl)))
theorem x308 : .selects RX11 yX11_windows yX11_windows ∈ zTg := zin_of (xK12 _ (List.mem_of_getElem? (i := 20) (show xL12[20]? = some (651, .selects RX11 yX11_windows yX11_windows) from rfl)))
theorem x309 : .methodLink RL 274 yX12_windows ∈ zTg := zin_of (xK12 _ (List.mem_of_getElem? (i := 21) (show xL12[21]? = some (2222, .methodLink RL 274 yX12_windows) from rfl)))
theorem x310 : .instanceMethod yX12_windows ∈ zTg := zin_of (xK12 _ (List.mem_of_getElem? (i := 22) (show xL12[22]? = some (2223, .instanceMethod yX12_windows) from rfl)))
theorem x311 : .selects RX12 yX12_windows yX12_windows ∈ zTg := zin_of (xK12 _ (List.mem_of_getElem? (i := 23) (show xL12[23]? = some (2224, .selects RX12 yX12_windows yX12_windows) from rfl)))
def xL13 : List (Nat × Cond) := [(1539, .static yL_posts), (1538, .methodLink RL 275 yL_posts), (2230, .methodLink RL 277 yX12_posts), (2231, .instanceMethod yX12_posts), (2232, .selects RX12 yX12_posts yX12_posts), (657, .methodLink RL 278 yX11_wins), (658, .instanceMethod yX11_wins), (659, .selects RX11 yX11_wins yX11_wins), (2238, .methodLink RL 281 yX12_wins), (2239, .instanceMethod yX12_wins), (2240, .selects RX12 yX12_wins yX12_wins), (1562, .static yL_swings), (1561, .methodLink RL 282 yL_swings), (2254, .methodLink RL 284 yX12_swings), (2255, .instanceMethod yX12_swings), (2256, .selects RX12 yX12_swings yX12_swings), (1573, .static yL_power), (1572, .methodLink RL 285 yL_power), (2270, .methodLink RL 287 yX12_power), (2271, .instanceMethod yX12_power), (2272, .selects RX12 yX12_power yX12_power), (675, .methodLink RL 288 yX11_minimal), (676, .instanceMethod yX11_minimal), (677, .selects RX11 yX11_minimal yX11_minimal)]
set_option maxRecDepth 100000 in
theorem xK13 : ∀ q ∈ xL13, lw_tbl[q.1]? = some q.2 ∧ goodWord q.2 = true := by decide +kernel
theorem x312 : .static yL_posts ∈ zTg := zin_of (xK13 _ (List.mem_of_getElem? (i := 0) (show xL13[0]? = some (1539, .static yL_posts) from rfl)))
theorem x313 : .methodLink RL 275 yL_posts ∈ zTg := zin_of (xK13 _ (List.mem_of_getElem? (i := 1) (show xL13[1]? = some (1538, .methodLink RL 275 yL_posts) from rfl)))
theorem x314 : .methodLink RL 277 yX12_posts ∈ zTg := zin_of (xK13 _ (List.mem_of_getElem? (i := 2) (show xL13[2]? = some (2230, .methodLink RL 277 yX12_posts) from rfl)))
theorem x315 : .instanceMethod yX12_posts ∈ zTg := zin_of (xK13 _ (List.mem_of_getElem? (i := 3) (show xL13[3]? = some (2231, .instanceMethod yX12_posts) from rfl)))
theorem x316 : .selects RX12 yX12_posts yX12_posts ∈ zTg := zin_of (xK13 _ (List.mem_of_getElem? (i := 4) (show xL13[4]? = some (2232, .selects RX12 yX12_posts yX12_posts) from rfl)))
theorem x317 : .methodLink RL 278 yX11_wins ∈ zTg := zin_of (xK13 _ (List.mem_of_getElem? (i := 5) (show xL13[5]? = some (657, .methodLink RL 278 yX11_wins) from rfl)))
theorem x318 : .instanceMethod yX11_wins ∈ zTg := zin_of (xK13 _ (List.mem_of_getElem? (i := 6) (show xL13[6]? = some (658, .instanceMethod yX11_wins) from rfl)))
theorem x319 : .selects RX11 yX11_wins yX11_wins ∈ zTg := zin_of (xK13 _ (List.mem_of_getElem? (i := 7) (show xL13[7]? = some (659, .selects RX11 yX11_wins yX11_wins) from rfl)))
theorem x320 : .methodLink RL 281 yX12_wins ∈ zTg := zin_of (xK13 _ (List.mem_of_getElem? (i := 8) (show xL13[8]? = some (2238, .methodLink RL 281 yX12_wins) from rfl)))
theorem x321 : .instanceMethod yX12_wins ∈ zTg := zin_of (xK13 _ (List.mem_of_getElem? (i := 9) (show xL13[9]? = some (2239, .instanceMethod yX12_wins) from rfl)))
theorem x322 : .selects RX12 yX12_wins yX12_wins ∈ zTg := zin_of (xK13 _ (List.mem_of_getElem? (i := 10) (show xL13[10]? = some (2240, .selects RX12 yX12_wins yX12_wins) from rfl)))
theorem x323 : .static yL_swings ∈ zTg := zin_of (xK13 _ (List.mem_of_getElem? (i := 11) (show xL13[11]? = some (1562, .static yL_swings) from rfl)))
theorem x324 : .methodLink RL 282 yL_swings ∈ zTg := zin_of (xK13 _ (List.mem_of_getElem? (i := 12) (show xL13[12]? = some (1561, .methodLink RL 282 yL_swings) from rfl)))
theorem x325 : .methodLink RL 284 yX12_swings ∈ zTg := zin_of (xK13 _ (List.mem_of_getElem? (i := 13) (show xL13[13]? = some (2254, .methodLink RL 284 yX12_swings) from rfl)))
theorem x326 : .instanceMethod yX12_swings ∈ zTg := zin_of (xK13 _ (List.mem_of_getElem? (i := 14) (show xL13[14]? = some (2255, .instanceMethod yX12_swings) from rfl)))
theorem x327 : .selects RX12 yX12_swings yX12_swings ∈ zTg := zin_of (xK13 _ (List.mem_of_getElem? (i := 15) (show xL13[15]? = some (2256, .selects RX12 yX12_swings yX12_swings) from rfl)))
theorem x328 : .static yL_power ∈ zTg := zin_of (xK13 _ (List.mem_of_getElem? (i := 16) (show xL13[16]? = some (1573, .static yL_power) from rfl)))
theorem x329 : .methodLink RL 285 yL_power ∈ zTg := zin_of (xK13 _ (List.mem_of_getElem? (i := 17) (show xL13[17]? = some (1572, .methodLink RL 285 yL_power) from rfl)))
theorem x330 : .methodLink RL 287 yX12_power ∈ zTg := zin_of (xK13 _ (List.mem_of_getElem? (i := 18) (show xL13[18]? = some (2270, .methodLink RL 287 yX12_power) from rfl)))
theorem x331 : .instanceMethod yX12_power ∈ zTg := zin_of (xK13 _ (List.mem_of_getElem? (i := 19) (show xL13[19]? = some (2271, .instanceMethod yX12_power) from rfl)))
theorem x332 : .selects RX12 yX12_power yX12_power ∈ zTg := zin_of (xK13 _ (List.mem_of_getElem? (i := 20) (show xL13[20]? = some (2272, .selects RX12 yX12_power yX12_power) from rfl)))
theorem x333 : .methodLink RL 288 yX11_minimal ∈ zTg := zin_of (xK13 _ (List.mem_of_getElem? (i := 21) (show xL13[21]? = some (675, .methodLink RL 288 yX11_minimal) from rfl)))
theorem x334 : .instanceMethod yX11_minimal ∈ zTg := zin_of (xK13 _ (List.mem_of_getElem? (i := 22) (show xL13[22]? = some (676, .instanceMethod yX11_minimal) from rfl)))
theorem x335 : .selects RX11 yX11_minimal yX11_minimal ∈ zTg := zin_of (xK13 _ (List.mem_of_getElem? (i := 23) (show xL13[23]? = some (677, .selects RX11 yX11_minimal yX11_minimal) from rfl)))
def xL14 : List (Nat × Cond) := [(2274, .methodLink RL 291 yX12_minimal), (2275, .instanceMethod yX12_minimal), (2276, .selects RX12 yX12_minimal yX12_minimal), (683, .methodLink RL 292 yX11_leader), (684, .instanceMethod yX11_leader), (685, .selects RX11 yX11_leader yX11_leader), (2282, .methodLink RL 295 yX12_leader), (2283, .instanceMethod yX12_leader), (2284, .selects RX12 yX12_leader yX12_leader), (1580, .static yL_minds), (1579, .methodLink RL 296 yL_minds), (2286, .methodLink RL 298 yX12_minds), (2287, .instanceMethod yX12_minds), (2288, .selects RX12 yX12_minds yX12_minds), (1589, .static yL_bargain), (1588, .methodLink RL 299 yL_bargain), (2294, .methodLink RL 301 yX12_bargain), (2295, .instanceMethod yX12_bargain), (2296, .selects RX12 yX12_bargain yX12_bargain), (1608, .static yL_like), (1607, .methodLink RL 302 yL_like), (2302, .methodLink RL 304 yX12_like), (2303, .instanceMethod yX12_like), (2304, .selects RX12 yX12_like yX12_like)]
set_option maxRecDepth 100000 in
theorem xK14 : ∀ q ∈ xL14, lw_tbl[q.1]? = some q.2 ∧ goodWord q.2 = true := by decide +kernel
theorem x336 : .methodLink RL 291 yX12_minimal ∈ zTg := zin_of (xK14 _ (List.mem_of_getElem? (i := 0) (show xL14[0]? = some (2274, .methodLink RL 291 yX12_minimal) from rfl)))
theorem x337 : .instanceMethod yX12_minimal ∈ zTg := zin_of (xK14 _ (List.mem_of_getElem? (i := 1) (show xL14[1]? = some (2275, .instanceMethod yX12_minimal) from rfl)))
theorem x338 : .selects RX12 yX12_minimal yX12_minimal ∈ zTg := zin_of (xK14 _ (List.mem_of_getElem? (i := 2) (show xL14[2]? = some (2276, .selects RX12 yX12_minimal yX12_minimal) from rfl)))
theorem x339 : .methodLink RL 292 yX11_leader ∈ zTg := zin_of (xK14 _ (List.mem_of_getElem? (i := 3) (show xL14[3]? = some (683, .methodLink RL 292 yX11_leader) from rfl)))
theorem x340 : .instanceMethod yX11_leader ∈ zTg := zin_of (xK14 _ (List.mem_of_getElem? (i := 4) (show xL14[4]? = some (684, .instanceMethod yX11_leader) from rfl)))
theorem x341 : .selects RX11 yX11_leader yX11_leader ∈ zTg := zin_of (xK14 _ (List.mem_of_getElem? (i := 5) (show xL14[5]? = some (685, .selects RX11 yX11_leader yX11_leader) from rfl)))
theorem x342 : .methodLink RL 295 yX12_leader ∈ zTg := zin_of (xK14 _ (List.mem_of_getElem? (i := 6) (show xL14[6]? = some (2282, .methodLink RL 295 yX12_leader) from rfl)))
theorem x343 : .instanceMethod yX12_leader ∈ zTg := zin_of (xK14 _ (List.mem_of_getElem? (i := 7) (show xL14[7]? = some (2283, .instanceMethod yX12_leader) from rfl)))
theorem x344 : .selects RX12 yX12_leader yX12_leader ∈ zTg := zin_of (xK14 _ (List.mem_of_getElem? (i := 8) (show xL14[8]? = some (2284, .selects RX12 yX12_leader yX12_leader) from rfl)))
theorem x345 : .static yL_minds ∈ zTg := zin_of (xK14 _ (List.mem_of_getElem? (i := 9) (show xL14[9]? = some (1580, .static yL_minds) from rfl)))
theorem x346 : .methodLink RL 296 yL_minds ∈ zTg := zin_of (xK14 _ (List.mem_of_getElem? (i := 10) (show xL14[10]? = some (1579, .methodLink RL 296 yL_minds) from rfl)))
theorem x347 : .methodLink RL 298 yX12_minds ∈ zTg := zin_of (xK14 _ (List.mem_of_getElem? (i := 11) (show xL14[11]? = some (2286, .methodLink RL 298 yX12_minds) from rfl)))
theorem x348 : .instanceMethod yX12_minds ∈ zTg := zin_of (xK14 _ (List.mem_of_getElem? (i := 12) (show xL14[12]? = some (2287, .instanceMethod yX12_minds) from rfl)))
theorem x349 : .selects RX12 yX12_minds yX12_minds ∈ zTg := zin_of (xK14 _ (List.mem_of_getElem? (i := 13) (show xL14[13]? = some (2288, .selects RX12 yX12_minds yX12_minds) from rfl)))
theorem x350 : .static yL_bargain ∈ zTg := zin_of (xK14 _ (List.mem_of_getElem? (i := 14) (show xL14[14]? = some (1589, .static yL_bargain) from rfl)))
theorem x351 : .methodLink RL 299 yL_bargain ∈ zTg := zin_of (xK14 _ (List.mem_of_getElem? (i := 15) (show xL14[15]? = some (1588, .methodLink RL 299 yL_bargain) from rfl)))
theorem x352 : .methodLink RL 301 yX12_bargain ∈ zTg := zin_of (xK14 _ (List.mem_of_getElem? (i := 16) (show xL14[16]? = some (2294, .methodLink RL 301 yX12_bargain) from rfl)))
theorem x353 : .instanceMethod yX12_bargain ∈ zTg := zin_of (xK14 _ (List.mem_of_getElem? (i := 17) (show xL14[17]? = some (2295, .instanceMethod yX12_bargain) from rfl)))
theorem x354 : .selects RX12 yX12_bargain yX12_bargain ∈ zTg := zin_of (xK14 _ (List.mem_of_getElem? (i := 18) (show xL14[18]? = some (2296, .selects RX12 yX12_bargain yX12_bargain) from rfl)))
theorem x355 : .static yL_like ∈ zTg := zin_of (xK14 _ (List.mem_of_getElem? (i := 19) (show xL14[19]? = some (1608, .static yL_like) from rfl)))
theorem x356 : .methodLink RL 302 yL_like ∈ zTg := zin_of (xK14 _ (List.mem_of_getElem? (i := 20) (show xL14[20]? = some (1607, .methodLink RL 302 yL_like) from rfl)))
theorem x357 : .methodLink RL 304 yX12_like ∈ zTg := zin_of (xK14 _ (List.mem_of_getElem? (i := 21) (show xL14[21]? = some (2302, .methodLink RL 304 yX12_like) from rfl)))
theorem x358 : .instanceMethod yX12_like ∈ zTg := zin_of (xK14 _ (List.mem_of_getElem? (i := 22) (show xL14[22]? = some (2303, .instanceMethod yX12_like) from rfl)))
theorem x359 : .selects RX12 yX12_like yX12_like ∈ zTg := zin_of (xK14 _ (List.mem_of_getElem? (i := 23) (show xL14[23]? = some (2304, .selects RX12 yX12_like yX12_like) from rfl)))
def xL15 : List (Nat × Cond) := [(697, .methodLink RL 305 yX11_foes), (698, .instanceMethod yX11_foes), (699, .selects RX11 yX11_foes yX11_foes), (2310, .methodLink RL 308 yX12_foes), (2311, .instanceMethod yX12_foes), (2312, .selects RX12 yX12_foes yX12_foes), (1615, .static yL_dry), (1614, .methodLink RL 309 yL_dry), (2314, .methodLink RL 311 yX12_dry), (2315, .instanceMethod yX12_dry), (2316, .selects RX12 yX12_dry yX12_dry), (1622, .static yL_drought), (1621, .methodLink RL 312 yL_drought), (2322, .methodLink RL 314 yX12_drought), (2323, .instanceMethod yX12_drought), (2324, .selects RX12 yX12_drought yX12_drought), (710, .methodLink RL 315 yX11_quorate), (711, .instanceMethod yX11_quorate), (712, .selects RX11 yX11_quorate yX11_quorate), (2326, .methodLink RL 319 yX12_quorate), (2327, .instanceMethod yX12_quorate), (2328, .selects RX12 yX12_quorate yX12_quorate), (714, .methodLink RL 320 yX11_enough), (715, .instanceMethod yX11_enough)]
set_option maxRecDepth 100000 in
theorem xK15 : ∀ q ∈ xL15, lw_tbl[q.1]? = some q.2 ∧ goodWord q.2 = true := by decide +kernel
theorem x360 : .methodLink RL 305 yX11_foes ∈ zTg := zin_of (xK15 _ (List.mem_of_getElem? (i := 0) (show xL15[0]? = some (697, .methodLink RL 305 yX11_foes) from rfl)))
theorem x361 : .instanceMethod yX11_foes ∈ zTg := zin_of (xK15 _ (List.mem_of_getElem? (i := 1) (show xL15[1]? = some (698, .instanceMethod yX11_foes) from rfl)))
theorem x362 : .selects RX11 yX11_foes yX11_foes ∈ zTg := zin_of (xK15 _ (List.mem_of_getElem? (i := 2) (show xL15[2]? = some (699, .selects RX11 yX11_foes yX11_foes) from rfl)))
theorem x363 : .methodLink RL 308 yX12_foes ∈ zTg := zin_of (xK15 _ (List.mem_of_getElem? (i := 3) (show xL15[3]? = some (2310, .methodLink RL 308 yX12_foes) from rfl)))
theorem x364 : .instanceMethod yX12_foes ∈ zTg := zin_of (xK15 _ (List.mem_of_getElem? (i := 4) (show xL15[4]? = some (2311, .instanceMethod yX12_foes) from rfl)))
theorem x365 : .selects RX12 yX12_foes yX12_foes ∈ zTg := zin_of (xK15 _ (List.mem_of_getElem? (i := 5) (show xL15[5]? = some (2312, .selects RX12 yX12_foes yX12_foes) from rfl)))
theorem x366 : .static yL_dry ∈ zTg := zin_of (xK15 _ (List.mem_of_getElem? (i := 6) (show xL15[6]? = some (1615, .static yL_dry) from rfl)))
theorem x367 : .methodLink RL 309 yL_dry ∈ zTg := zin_of (xK15 _ (List.mem_of_getElem? (i := 7) (show xL15[7]? = some (1614, .methodLink RL 309 yL_dry) from rfl)))
theorem x368 : .methodLink RL 311 yX12_dry ∈ zTg := zin_of (xK15 _ (List.mem_of_getElem? (i := 8) (show xL15[8]? = some (2314, .methodLink RL 311 yX12_dry) from rfl)))
theorem x369 : .instanceMethod yX12_dry ∈ zTg := zin_of (xK15 _ (List.mem_of_getElem? (i := 9) (show xL15[9]? = some (2315, .instanceMethod yX12_dry) from rfl)))
theorem x370 : .selects RX12 yX12_dry yX12_dry ∈ zTg := zin_of (xK15 _ (List.mem_of_getElem? (i := 10) (show xL15[10]? = some (2316, .selects RX12 yX12_dry yX12_dry) from rfl)))
theorem x371 : .static yL_drought ∈ zTg := zin_of (xK15 _ (List.mem_of_getElem? (i := 11) (show xL15[11]? = some (1622, .static yL_drought) from rfl)))
theorem x372 : .methodLink RL 312 yL_drought ∈ zTg := zin_of (xK15 _ (List.mem_of_getElem? (i := 12) (show xL15[12]? = some (1621, .methodLink RL 312 yL_drought) from rfl)))
theorem x373 : .methodLink RL 314 yX12_drought ∈ zTg := zin_of (xK15 _ (List.mem_of_getElem? (i := 13) (show xL15[13]? = some (2322, .methodLink RL 314 yX12_drought) from rfl)))
theorem x374 : .instanceMethod yX12_drought ∈ zTg := zin_of (xK15 _ (List.mem_of_getElem? (i := 14) (show xL15[14]? = some (2323, .instanceMethod yX12_drought) from rfl)))
theorem x375 : .selects RX12 yX12_drought yX12_drought ∈ zTg := zin_of (xK15 _ (List.mem_of_getElem? (i := 15) (show xL15[15]? = some (2324, .selects RX12 yX12_drought yX12_drought) from rfl)))
theorem x376 : .methodLink RL 315 yX11_quorate ∈ zTg := zin_of (xK15 _ (List.mem_of_getElem? (i := 16) (show xL15[16]? = some (710, .methodLink RL 315 yX11_quorate) from rfl)))
theorem x377 : .instanceMethod yX11_quorate ∈ zTg := zin_of (xK15 _ (List.mem_of_getElem? (i := 17) (show xL15[17]? = some (711, .instanceMethod yX11_quorate) from rfl)))
theorem x378 : .selects RX11 yX11_quorate yX11_quorate ∈ zTg := zin_of (xK15 _ (List.mem_of_getElem? (i := 18) (show xL15[18]? = some (712, .selects RX11 yX11_quorate yX11_quorate) from rfl)))
theorem x379 : .methodLink RL 319 yX12_quorate ∈ zTg := zin_of (xK15 _ (List.mem_of_getElem? (i := 19) (show xL15[19]? = some (2326, .methodLink RL 319 yX12_quorate) from rfl)))
theorem x380 : .instanceMethod yX12_quorate ∈ zTg := zin_of (xK15 _ (List.mem_of_getElem? (i := 20) (show xL15[20]? = some (2327, .instanceMethod yX12_quorate) from rfl)))
theorem x381 : .selects RX12 yX12_quorate yX12_quorate ∈ zTg := zin_of (xK15 _ (List.mem_of_getElem? (i := 21) (show xL15[21]? = some (2328, .selects RX12 yX12_quorate yX12_quorate) from rfl)))
theorem x382 : .methodLink RL 320 yX11_enough ∈ zTg := zin_of (xK15 _ (List.mem_of_getElem? (i := 22) (show xL15[22]? = some (714, .methodLink RL 320 yX11_enough) from rfl)))
theorem x383 : .instanceMethod yX11_enough ∈ zTg := zin_of (xK15 _ (List.mem_of_getElem? (i := 23) (show xL15[23]? = some (715, .instanceMethod yX11_enough) from rfl)))
def xL16 : List (Nat × Cond) := [(716, .selects RX11 yX11_enough yX11_enough), (2330, .methodLink RL 323 yX12_enough), (2331, .instanceMethod yX12_enough), (2332, .selects RX12 yX12_enough yX12_enough), (1629, .static yL_rests), (1628, .methodLink RL 324 yL_rests), (2334, .methodLink RL 326 yX12_rests), (2335, .instanceMethod yX12_rests), (2336, .selects RX12 yX12_rests yX12_rests), (741, .methodLink RL 327 yX11_tabled), (742, .instanceMethod yX11_tabled), (743, .selects RX11 yX11_tabled yX11_tabled), (2350, .methodLink RL 330 yX12_tabled), (2351, .instanceMethod yX12_tabled), (2352, .selects RX12 yX12_tabled yX12_tabled), (746, .methodLink RL 331 yX11_soaked), (747, .instanceMethod yX11_soaked), (748, .selects RX11 yX11_soaked yX11_soaked), (2354, .methodLink RL 334 yX12_soaked), (2355, .instanceMethod yX12_soaked), (2356, .selects RX12 yX12_soaked yX12_soaked), (751, .methodLink RL 335 yX11_twins), (752, .instanceMethod yX11_twins), (753, .selects RX11 yX11_twins yX11_twins)]
set_option maxRecDepth 100000 in
theorem xK16 : ∀ q ∈ xL16, lw_tbl[q.1]? = some q.2 ∧ goodWord q.2 = true := by decide +kernel
theorem x384 : .selects RX11 yX11_enough yX11_enough ∈ zTg := zin_of (xK16 _ (List.mem_of_getElem? (i := 0) (show xL16[0]? = some (716, .selects RX11 yX11_enough yX11_enough) from rfl)))
theorem x385 : .methodLink RL 323 yX12_enough ∈ zTg := zin_of (xK16 _ (List.mem_of_getElem? (i := 1) (show xL16[1]? = some (2330, .methodLink RL 323 yX12_enough) from rfl)))
theorem x386 : .instanceMethod yX12_enough ∈ zTg := zin_of (xK16 _ (List.mem_of_getElem? (i := 2) (show xL16[2]? = some (2331, .instanceMethod yX12_enough) from rfl)))
theorem x387 : .selects RX12 yX12_enough yX12_enough ∈ zTg := zin_of (xK16 _ (List.mem_of_getElem? (i := 3) (show xL16[3]? = some (2332, .selects RX12 yX12_enough yX12_enough) from rfl)))
theorem x388 : .static yL_rests ∈ zTg := zin_of (xK16 _ (List.mem_of_getElem? (i := 4) (show xL16[4]? = some (1629, .static yL_rests) from rfl)))
theorem x389 : .methodLink RL 324 yL_rests ∈ zTg := zin_of (xK16 _ (List.mem_of_getElem? (i := 5) (show xL16[5]? = some (1628, .methodLink RL 324 yL_rests) from rfl)))
theorem x390 : .methodLink RL 326 yX12_rests ∈ zTg := zin_of (xK16 _ (List.mem_of_getElem? (i := 6) (show xL16[6]? = some (2334, .methodLink RL 326 yX12_rests) from rfl)))
theorem x391 : .instanceMethod yX12_rests ∈ zTg := zin_of (xK16 _ (List.mem_of_getElem? (i := 7) (show xL16[7]? = some (2335, .instanceMethod yX12_rests) from rfl)))
theorem x392 : .selects RX12 yX12_rests yX12_rests ∈ zTg := zin_of (xK16 _ (List.mem_of_getElem? (i := 8) (show xL16[8]? = some (2336, .selects RX12 yX12_rests yX12_rests) from rfl)))
theorem x393 : .methodLink RL 327 yX11_tabled ∈ zTg := zin_of (xK16 _ (List.mem_of_getElem? (i := 9) (show xL16[9]? = some (741, .methodLink RL 327 yX11_tabled) from rfl)))
theorem x394 : .instanceMethod yX11_tabled ∈ zTg := zin_of (xK16 _ (List.mem_of_getElem? (i := 10) (show xL16[10]? = some (742, .instanceMethod yX11_tabled) from rfl)))
theorem x395 : .selects RX11 yX11_tabled yX11_tabled ∈ zTg := zin_of (xK16 _ (List.mem_of_getElem? (i := 11) (show xL16[11]? = some (743, .selects RX11 yX11_tabled yX11_tabled) from rfl)))
theorem x396 : .methodLink RL 330 yX12_tabled ∈ zTg := zin_of (xK16 _ (List.mem_of_getElem? (i := 12) (show xL16[12]? = some (2350, .methodLink RL 330 yX12_tabled) from rfl)))
theorem x397 : .instanceMethod yX12_tabled ∈ zTg := zin_of (xK16 _ (List.mem_of_getElem? (i := 13) (show xL16[13]? = some (2351, .instanceMethod yX12_tabled) from rfl)))
theorem x398 : .selects RX12 yX12_tabled yX12_tabled ∈ zTg := zin_of (xK16 _ (List.mem_of_getElem? (i := 14) (show xL16[14]? = some (2352, .selects RX12 yX12_tabled yX12_tabled) from rfl)))
theorem x399 : .methodLink RL 331 yX11_soaked ∈ zTg := zin_of (xK16 _ (List.mem_of_getElem? (i := 15) (show xL16[15]? = some (746, .methodLink RL 331 yX11_soaked) from rfl)))
theorem x400 : .instanceMethod yX11_soaked ∈ zTg := zin_of (xK16 _ (List.mem_of_getElem? (i := 16) (show xL16[16]? = some (747, .instanceMethod yX11_soaked) from rfl)))
theorem x401 : .selects RX11 yX11_soaked yX11_soaked ∈ zTg := zin_of (xK16 _ (List.mem_of_getElem? (i := 17) (show xL16[17]? = some (748, .selects RX11 yX11_soaked yX11_soaked) from rfl)))
theorem x402 : .methodLink RL 334 yX12_soaked ∈ zTg := zin_of (xK16 _ (List.mem_of_getElem? (i := 18) (show xL16[18]? = some (2354, .methodLink RL 334 yX12_soaked) from rfl)))
theorem x403 : .instanceMethod yX12_soaked ∈ zTg := zin_of (xK16 _ (List.mem_of_getElem? (i := 19) (show xL16[19]? = some (2355, .instanceMethod yX12_soaked) from rfl)))
theorem x404 : .selects RX12 yX12_soaked yX12_soaked ∈ zTg := zin_of (xK16 _ (List.mem_of_getElem? (i := 20) (show xL16[20]? = some (2356, .selects RX12 yX12_soaked yX12_soaked) from rfl)))
theorem x405 : .methodLink RL 335 yX11_twins ∈ zTg := zin_of (xK16 _ (List.mem_of_getElem? (i := 21) (show xL16[21]? = some (751, .methodLink RL 335 yX11_twins) from rfl)))
theorem x406 : .instanceMethod yX11_twins ∈ zTg := zin_of (xK16 _ (List.mem_of_getElem? (i := 22) (show xL16[22]? = some (752, .instanceMethod yX11_twins) from rfl)))
theorem x407 : .selects RX11 yX11_twins yX11_twins ∈ zTg := zin_of (xK16 _ (List.mem_of_getElem? (i := 23) (show xL16[23]? = some (753, .selects RX11 yX11_twins yX11_twins) from rfl)))
def xL17 : List (Nat × Cond) := [(2358, .methodLink RL 338 yX12_twins), (2359, .instanceMethod yX12_twins), (2360, .selects RX12 yX12_twins yX12_twins), (755, .methodLink RL 339 yX11_richest), (756, .instanceMethod yX11_richest), (757, .selects RX11 yX11_richest yX11_richest), (2362, .methodLink RL 342 yX12_richest), (2363, .instanceMethod yX12_richest), (2364, .selects RX12 yX12_richest yX12_richest), (1641, .static yL_trial), (1640, .methodLink RL 343 yL_trial), (2366, .methodLink RL 345 yX12_trial), (2367, .instanceMethod yX12_trial), (2368, .selects RX12 yX12_trial yX12_trial), (1652, .static yL_span), (1651, .methodLink RL 346 yL_span), (2374, .methodLink RL 348 yX12_span), (2375, .instanceMethod yX12_span), (2376, .selects RX12 yX12_span yX12_span), (1659, .static yL_led), (1658, .methodLink RL 349 yL_led), (2378, .methodLink RL 351 yX12_led), (2379, .instanceMethod yX12_led), (2380, .selects RX12 yX12_led yX12_led)]
set_option maxRecDepth 100000 in
theorem xK17 : ∀ q ∈ xL17, lw_tbl[q.1]? = some q.2 ∧ goodWord q.2 = true := by decide +kernel
theorem x408 : .methodLink RL 338 yX12_twins ∈ zTg := zin_of (xK17 _ (List.mem_of_getElem? (i := 0) (show xL17[0]? = some (2358, .methodLink RL 338 yX12_twins) from rfl)))
theorem x409 : .instanceMethod yX12_twins ∈ zTg := zin_of (xK17 _ (List.mem_of_getElem? (i := 1) (show xL17[1]? = some (2359, .instanceMethod yX12_twins) from rfl)))
theorem x410 : .selects RX12 yX12_twins yX12_twins ∈ zTg := zin_of (xK17 _ (List.mem_of_getElem? (i := 2) (show xL17[2]? = some (2360, .selects RX12 yX12_twins yX12_twins) from rfl)))
theorem x411 : .methodLink RL 339 yX11_richest ∈ zTg := zin_of (xK17 _ (List.mem_of_getElem? (i := 3) (show xL17[3]? = some (755, .methodLink RL 339 yX11_richest) from rfl)))
theorem x412 : .instanceMethod yX11_richest ∈ zTg := zin_of (xK17 _ (List.mem_of_getElem? (i := 4) (show xL17[4]? = some (756, .instanceMethod yX11_richest) from rfl)))
theorem x413 : .selects RX11 yX11_richest yX11_richest ∈ zTg := zin_of (xK17 _ (List.mem_of_getElem? (i := 5) (show xL17[5]? = some (757, .selects RX11 yX11_richest yX11_richest) from rfl)))
theorem x414 : .methodLink RL 342 yX12_richest ∈ zTg := zin_of (xK17 _ (List.mem_of_getElem? (i := 6) (show xL17[6]? = some (2362, .methodLink RL 342 yX12_richest) from rfl)))
theorem x415 : .instanceMethod yX12_richest ∈ zTg := zin_of (xK17 _ (List.mem_of_getElem? (i := 7) (show xL17[7]? = some (2363, .instanceMethod yX12_richest) from rfl)))
theorem x416 : .selects RX12 yX12_richest yX12_richest ∈ zTg := zin_of (xK17 _ (List.mem_of_getElem? (i := 8) (show xL17[8]? = some (2364, .selects RX12 yX12_richest yX12_richest) from rfl)))
theorem x417 : .static yL_trial ∈ zTg := zin_of (xK17 _ (List.mem_of_getElem? (i := 9) (show xL17[9]? = some (1641, .static yL_trial) from rfl)))
theorem x418 : .methodLink RL 343 yL_trial ∈ zTg := zin_of (xK17 _ (List.mem_of_getElem? (i := 10) (show xL17[10]? = some (1640, .methodLink RL 343 yL_trial) from rfl)))
theorem x419 : .methodLink RL 345 yX12_trial ∈ zTg := zin_of (xK17 _ (List.mem_of_getElem? (i := 11) (show xL17[11]? = some (2366, .methodLink RL 345 yX12_trial) from rfl)))
theorem x420 : .instanceMethod yX12_trial ∈ zTg := zin_of (xK17 _ (List.mem_of_getElem? (i := 12) (show xL17[12]? = some (2367, .instanceMethod yX12_trial) from rfl)))
theorem x421 : .selects RX12 yX12_trial yX12_trial ∈ zTg := zin_of (xK17 _ (List.mem_of_getElem? (i := 13) (show xL17[13]? = some (2368, .selects RX12 yX12_trial yX12_trial) from rfl)))
theorem x422 : .static yL_span ∈ zTg := zin_of (xK17 _ (List.mem_of_getElem? (i := 14) (show xL17[14]? = some (1652, .static yL_span) from rfl)))
theorem x423 : .methodLink RL 346 yL_span ∈ zTg := zin_of (xK17 _ (List.mem_of_getElem? (i := 15) (show xL17[15]? = some (1651, .methodLink RL 346 yL_span) from rfl)))
theorem x424 : .methodLink RL 348 yX12_span ∈ zTg := zin_of (xK17 _ (List.mem_of_getElem? (i := 16) (show xL17[16]? = some (2374, .methodLink RL 348 yX12_span) from rfl)))
theorem x425 : .instanceMethod yX12_span ∈ zTg := zin_of (xK17 _ (List.mem_of_getElem? (i := 17) (show xL17[17]? = some (2375, .instanceMethod yX12_span) from rfl)))
theorem x426 : .selects RX12 yX12_span yX12_span ∈ zTg := zin_of (xK17 _ (List.mem_of_getElem? (i := 18) (show xL17[18]? = some (2376, .selects RX12 yX12_span yX12_span) from rfl)))
theorem x427 : .static yL_led ∈ zTg := zin_of (xK17 _ (List.mem_of_getElem? (i := 19) (show xL17[19]? = some (1659, .static yL_led) from rfl)))
theorem x428 : .methodLink RL 349 yL_led ∈ zTg := zin_of (xK17 _ (List.mem_of_getElem? (i := 20) (show xL17[20]? = some (1658, .methodLink RL 349 yL_led) from rfl)))
theorem x429 : .methodLink RL 351 yX12_led ∈ zTg := zin_of (xK17 _ (List.mem_of_getElem? (i := 21) (show xL17[21]? = some (2378, .methodLink RL 351 yX12_led) from rfl)))
theorem x430 : .instanceMethod yX12_led ∈ zTg := zin_of (xK17 _ (List.mem_of_getElem? (i := 22) (show xL17[22]? = some (2379, .instanceMethod yX12_led) from rfl)))
theorem x431 : .selects RX12 yX12_led yX12_led ∈ zTg := zin_of (xK17 _ (List.mem_of_getElem? (i := 23) (show xL17[23]? = some (2380, .selects RX12 yX12_led yX12_led) from rfl)))
def xL18 : List (Nat × Cond) := [(1670, .static yL_log), (1669, .methodLink RL 352 yL_log), (2386, .methodLink RL 354 yX12_log), (2387, .instanceMethod yX12_log), (2388, .selects RX12 yX12_log yX12_log), (759, .methodLink RL 355 yX11_seed), (760, .instanceMethod yX11_seed), (761, .selects RX11 yX11_seed yX11_seed), (2390, .methodLink RL 358 yX12_seed), (2391, .instanceMethod yX12_seed), (2392, .selects RX12 yX12_seed yX12_seed), (763, .methodLink RL 359 yX11_undo), (764, .instanceMethod yX11_undo), (765, .selects RX11 yX11_undo yX11_undo), (2394, .methodLink RL 362 yX12_undo), (2395, .instanceMethod yX12_undo), (2396, .selects RX12 yX12_undo yX12_undo), (786, .methodLink RL 363 yX11_image), (787, .instanceMethod yX11_image), (788, .selects RX11 yX11_image yX11_image), (2398, .methodLink RL 366 yX12_image), (2399, .instanceMethod yX12_image), (2400, .selects RX12 yX12_image yX12_image), (790, .methodLink RL 367 yX11_back)]
set_option maxRecDepth 100000 in
theorem xK18 : ∀ q ∈ xL18, lw_tbl[q.1]? = some q.2 ∧ goodWord q.2 = true := by decide +kernel
theorem x432 : .static yL_log ∈ zTg := zin_of (xK18 _ (List.mem_of_getElem? (i := 0) (show xL18[0]? = some (1670, .static yL_log) from rfl)))
theorem x433 : .methodLink RL 352 yL_log ∈ zTg := zin_of (xK18 _ (List.mem_of_getElem? (i := 1) (show xL18[1]? = some (1669, .methodLink RL 352 yL_log) from rfl)))
theorem x434 : .methodLink RL 354 yX12_log ∈ zTg := zin_of (xK18 _ (List.mem_of_getElem? (i := 2) (show xL18[2]? = some (2386, .methodLink RL 354 yX12_log) from rfl)))
theorem x435 : .instanceMethod yX12_log ∈ zTg := zin_of (xK18 _ (List.mem_of_getElem? (i := 3) (show xL18[3]? = some (2387, .instanceMethod yX12_log) from rfl)))
theorem x436 : .selects RX12 yX12_log yX12_log ∈ zTg := zin_of (xK18 _ (List.mem_of_getElem? (i := 4) (show xL18[4]? = some (2388, .selects RX12 yX12_log yX12_log) from rfl)))
theorem x437 : .methodLink RL 355 yX11_seed ∈ zTg := zin_of (xK18 _ (List.mem_of_getElem? (i := 5) (show xL18[5]? = some (759, .methodLink RL 355 yX11_seed) from rfl)))
theorem x438 : .instanceMethod yX11_seed ∈ zTg := zin_of (xK18 _ (List.mem_of_getElem? (i := 6) (show xL18[6]? = some (760, .instanceMethod yX11_seed) from rfl)))
theorem x439 : .selects RX11 yX11_seed yX11_seed ∈ zTg := zin_of (xK18 _ (List.mem_of_getElem? (i := 7) (show xL18[7]? = some (761, .selects RX11 yX11_seed yX11_seed) from rfl)))
theorem x440 : .methodLink RL 358 yX12_seed ∈ zTg := zin_of (xK18 _ (List.mem_of_getElem? (i := 8) (show xL18[8]? = some (2390, .methodLink RL 358 yX12_seed) from rfl)))
theorem x441 : .instanceMethod yX12_seed ∈ zTg := zin_of (xK18 _ (List.mem_of_getElem? (i := 9) (show xL18[9]? = some (2391, .instanceMethod yX12_seed) from rfl)))
theorem x442 : .selects RX12 yX12_seed yX12_seed ∈ zTg := zin_of (xK18 _ (List.mem_of_getElem? (i := 10) (show xL18[10]? = some (2392, .selects RX12 yX12_seed yX12_seed) from rfl)))
theorem x443 : .methodLink RL 359 yX11_undo ∈ zTg := zin_of (xK18 _ (List.mem_of_getElem? (i := 11) (show xL18[11]? = some (763, .methodLink RL 359 yX11_undo) from rfl)))
theorem x444 : .instanceMethod yX11_undo ∈ zTg := zin_of (xK18 _ (List.mem_of_getElem? (i := 12) (show xL18[12]? = some (764, .instanceMethod yX11_undo) from rfl)))
theorem x445 : .selects RX11 yX11_undo yX11_undo ∈ zTg := zin_of (xK18 _ (List.mem_of_getElem? (i := 13) (show xL18[13]? = some (765, .selects RX11 yX11_undo yX11_undo) from rfl)))
theorem x446 : .methodLink RL 362 yX12_undo ∈ zTg := zin_of (xK18 _ (List.mem_of_getElem? (i := 14) (show xL18[14]? = some (2394, .methodLink RL 362 yX12_undo) from rfl)))
theorem x447 : .instanceMethod yX12_undo ∈ zTg := zin_of (xK18 _ (List.mem_of_getElem? (i := 15) (show xL18[15]? = some (2395, .instanceMethod yX12_undo) from rfl)))
theorem x448 : .selects RX12 yX12_undo yX12_undo ∈ zTg := zin_of (xK18 _ (List.mem_of_getElem? (i := 16) (show xL18[16]? = some (2396, .selects RX12 yX12_undo yX12_undo) from rfl)))
theorem x449 : .methodLink RL 363 yX11_image ∈ zTg := zin_of (xK18 _ (List.mem_of_getElem? (i := 17) (show xL18[17]? = some (786, .methodLink RL 363 yX11_image) from rfl)))
theorem x450 : .instanceMethod yX11_image ∈ zTg := zin_of (xK18 _ (List.mem_of_getElem? (i := 18) (show xL18[18]? = some (787, .instanceMethod yX11_image) from rfl)))
theorem x451 : .selects RX11 yX11_image yX11_image ∈ zTg := zin_of (xK18 _ (List.mem_of_getElem? (i := 19) (show xL18[19]? = some (788, .selects RX11 yX11_image yX11_image) from rfl)))
theorem x452 : .methodLink RL 366 yX12_image ∈ zTg := zin_of (xK18 _ (List.mem_of_getElem? (i := 20) (show xL18[20]? = some (2398, .methodLink RL 366 yX12_image) from rfl)))
theorem x453 : .instanceMethod yX12_image ∈ zTg := zin_of (xK18 _ (List.mem_of_getElem? (i := 21) (show xL18[21]? = some (2399, .instanceMethod yX12_image) from rfl)))
theorem x454 : .selects RX12 yX12_image yX12_image ∈ zTg := zin_of (xK18 _ (List.mem_of_getElem? (i := 22) (show xL18[22]? = some (2400, .selects RX12 yX12_image yX12_image) from rfl)))
theorem x455 : .methodLink RL 367 yX11_back ∈ zTg := zin_of (xK18 _ (List.mem_of_getElem? (i := 23) (show xL18[23]? = some (790, .methodLink RL 367 yX11_back) from rfl)))
def xL19 : List (Nat × Cond) := [(791, .instanceMethod yX11_back), (792, .selects RX11 yX11_back yX11_back), (2402, .methodLink RL 370 yX12_back), (2403, .instanceMethod yX12_back), (2404, .selects RX12 yX12_back yX12_back), (798, .methodLink RL 371 yX11_count), (799, .instanceMethod yX11_count), (800, .selects RX11 yX11_count yX11_count), (2406, .methodLink RL 374 yX12_count), (2407, .instanceMethod yX12_count), (2408, .selects RX12 yX12_count yX12_count), (804, .codeWith yL_coast cL_coast 3 (some .int) [(0, 8, 11, 13), (0, 8, 14, 15)]), (122, .initialized RL), (1087, .codeWith yL_law cL_law 3 (some .int) [(0, 8, 11, 13)]), (1163, .codeWith yL_member cL_member 5 (some .int) [(0, 10, 13, 24), (0, 10, 17, 26)]), (1213, .codeWith yL_motion cL_motion 5 (some .int) [(0, 10, 13, 24), (0, 10, 17, 26)]), (1227, .codeWith yL_follows cL_follows 5 (some .int) [(0, 10, 13, 24)]), (1238, .codeWith yL_exposed cL_exposed 4 (some .int) [(0, 9, 12, 24)]), (1249, .codeWith yL_paper cL_paper 4 (some .int) [(0, 9, 12, 24)]), (1260, .codeWith yL_felt cL_felt 6 (some .int) [(0, 12, 15, 24)]), (1267, .codeWith yL_goes cL_goes 6 (some .int) [(0, 12, 15, 24)]), (1275, .codeWith yL_hours cL_hours 4 (some .int) [(0, 9, 12, 13)]), (1308, .codeWith yL_table cL_table 5 (some .int) [(0, 10, 13, 24), (0, 10, 17, 54)]), (1341, .codeWith yL_clear cL_clear 4 (some .int) [(0, 9, 12, 24), (0, 9, 15, 54)])]
set_option maxRecDepth 100000 in
theorem xK19 : ∀ q ∈ xL19, lw_tbl[q.1]? = some q.2 ∧ goodWord q.2 = true := by decide +kernel
theorem x456 : .instanceMethod yX11_back ∈ zTg := zin_of (xK19 _ (List.mem_of_getElem? (i := 0) (show xL19[0]? = some (791, .instanceMethod yX11_back) from rfl)))
theorem x457 : .selects RX11 yX11_back yX11_back ∈ zTg := zin_of (xK19 _ (List.mem_of_getElem? (i := 1) (show xL19[1]? = some (792, .selects RX11 yX11_back yX11_back) from rfl)))
theorem x458 : .methodLink RL 370 yX12_back ∈ zTg := zin_of (xK19 _ (List.mem_of_getElem? (i := 2) (show xL19[2]? = some (2402, .methodLink RL 370 yX12_back) from rfl)))
theorem x459 : .instanceMethod yX12_back ∈ zTg := zin_of (xK19 _ (List.mem_of_getElem? (i := 3) (show xL19[3]? = some (2403, .instanceMethod yX12_back) from rfl)))
theorem x460 : .selects RX12 yX12_back yX12_back ∈ zTg := zin_of (xK19 _ (List.mem_of_getElem? (i := 4) (show xL19[4]? = some (2404, .selects RX12 yX12_back yX12_back) from rfl)))
theorem x461 : .methodLink RL 371 yX11_count ∈ zTg := zin_of (xK19 _ (List.mem_of_getElem? (i := 5) (show xL19[5]? = some (798, .methodLink RL 371 yX11_count) from rfl)))
theorem x462 : .instanceMethod yX11_count ∈ zTg := zin_of (xK19 _ (List.mem_of_getElem? (i := 6) (show xL19[6]? = some (799, .instanceMethod yX11_count) from rfl)))
theorem x463 : .selects RX11 yX11_count yX11_count ∈ zTg := zin_of (xK19 _ (List.mem_of_getElem? (i := 7) (show xL19[7]? = some (800, .selects RX11 yX11_count yX11_count) from rfl)))
theorem x464 : .methodLink RL 374 yX12_count ∈ zTg := zin_of (xK19 _ (List.mem_of_getElem? (i := 8) (show xL19[8]? = some (2406, .methodLink RL 374 yX12_count) from rfl)))
theorem x465 : .instanceMethod yX12_count ∈ zTg := zin_of (xK19 _ (List.mem_of_getElem? (i := 9) (show xL19[9]? = some (2407, .instanceMethod yX12_count) from rfl)))
theorem x466 : .selects RX12 yX12_count yX12_count ∈ zTg := zin_of (xK19 _ (List.mem_of_getElem? (i := 10) (show xL19[10]? = some (2408, .selects RX12 yX12_count yX12_count) from rfl)))
theorem x467 : .codeWith yL_coast cL_coast 3 (some .int) [(0, 8, 11, 13), (0, 8, 14, 15)] ∈ zTg := zin_of (xK19 _ (List.mem_of_getElem? (i := 11) (show xL19[11]? = some (804, .codeWith yL_coast cL_coast 3 (some .int) [(0, 8, 11, 13), (0, 8, 14, 15)]) from rfl)))
theorem x468 : .initialized RL ∈ zTg := zin_of (xK19 _ (List.mem_of_getElem? (i := 12) (show xL19[12]? = some (122, .initialized RL) from rfl)))
theorem x469 : .codeWith yL_law cL_law 3 (some .int) [(0, 8, 11, 13)] ∈ zTg := zin_of (xK19 _ (List.mem_of_getElem? (i := 13) (show xL19[13]? = some (1087, .codeWith yL_law cL_law 3 (some .int) [(0, 8, 11, 13)]) from rfl)))
theorem x470 : .codeWith yL_member cL_member 5 (some .int) [(0, 10, 13, 24), (0, 10, 17, 26)] ∈ zTg := zin_of (xK19 _ (List.mem_of_getElem? (i := 14) (show xL19[14]? = some (1163, .codeWith yL_member cL_member 5 (some .int) [(0, 10, 13, 24), (0, 10, 17, 26)]) from rfl)))
theorem x471 : .codeWith yL_motion cL_motion 5 (some .int) [(0, 10, 13, 24), (0, 10, 17, 26)] ∈ zTg := zin_of (xK19 _ (List.mem_of_getElem? (i := 15) (show xL19[15]? = some (1213, .codeWith yL_motion cL_motion 5 (some .int) [(0, 10, 13, 24), (0, 10, 17, 26)]) from rfl)))
theorem x472 : .codeWith yL_follows cL_follows 5 (some .int) [(0, 10, 13, 24)] ∈ zTg := zin_of (xK19 _ (List.mem_of_getElem? (i := 16) (show xL19[16]? = some (1227, .codeWith yL_follows cL_follows 5 (some .int) [(0, 10, 13, 24)]) from rfl)))
theorem x473 : .codeWith yL_exposed cL_exposed 4 (some .int) [(0, 9, 12, 24)] ∈ zTg := zin_of (xK19 _ (List.mem_of_getElem? (i := 17) (show xL19[17]? = some (1238, .codeWith yL_exposed cL_exposed 4 (some .int) [(0, 9, 12, 24)]) from rfl)))
theorem x474 : .codeWith yL_paper cL_paper 4 (some .int) [(0, 9, 12, 24)] ∈ zTg := zin_of (xK19 _ (List.mem_of_getElem? (i := 18) (show xL19[18]? = some (1249, .codeWith yL_paper cL_paper 4 (some .int) [(0, 9, 12, 24)]) from rfl)))
theorem x475 : .codeWith yL_felt cL_felt 6 (some .int) [(0, 12, 15, 24)] ∈ zTg := zin_of (xK19 _ (List.mem_of_getElem? (i := 19) (show xL19[19]? = some (1260, .codeWith yL_felt cL_felt 6 (some .int) [(0, 12, 15, 24)]) from rfl)))
theorem x476 : .codeWith yL_goes cL_goes 6 (some .int) [(0, 12, 15, 24)] ∈ zTg := zin_of (xK19 _ (List.mem_of_getElem? (i := 20) (show xL19[20]? = some (1267, .codeWith yL_goes cL_goes 6 (some .int) [(0, 12, 15, 24)]) from rfl)))
theorem x477 : .codeWith yL_hours cL_hours 4 (some .int) [(0, 9, 12, 13)] ∈ zTg := zin_of (xK19 _ (List.mem_of_getElem? (i := 21) (show xL19[21]? = some (1275, .codeWith yL_hours cL_hours 4 (some .int) [(0, 9, 12, 13)]) from rfl)))
theorem x478 : .codeWith yL_table cL_table 5 (some .int) [(0, 10, 13, 24), (0, 10, 17, 54)] ∈ zTg := zin_of (xK19 _ (List.mem_of_getElem? (i := 22) (show xL19[22]? = some (1308, .codeWith yL_table cL_table 5 (some .int) [(0, 10, 13, 24), (0, 10, 17, 54)]) from rfl)))
theorem x479 : .codeWith yL_clear cL_clear 4 (some .int) [(0, 9, 12, 24), (0, 9, 15, 54)] ∈ zTg := zin_of (xK19 _ (List.mem_of_getElem? (i := 23) (show xL19[23]? = some (1341, .codeWith yL_clear cL_clear 4 (some .int) [(0, 9, 12, 24), (0, 9, 15, 54)]) from rfl)))
def xL20 : List (Nat × Cond) := [(1349, .codeWith yL_hat cL_hat 5 (some .int) [(0, 17, 20, 24)]), (1357, .codeWith yL_out cL_out 5 (some .int) [(0, 17, 20, 24)]), (1364, .codeWith yL_walk cL_walk 5 (some .int) [(0, 10, 13, 24)]), (1371, .codeWith yL_mind cL_mind 5 (some .int) [(0, 17, 20, 24), (0, 17, 24, 54)]), (1378, .codeWith yL_seat cL_seat 5 (some .int) [(0, 10, 13, 24), (0, 10, 17, 13)]), (1385, .codeWith yL_renew cL_renew 4 (some .int) [(0, 9, 12, 24), (0, 9, 15, 54)]), (1393, .codeWith yL_chance cL_chance 5 (some .int) [(0, 10, 13, 24), (0, 10, 17, 13)]), (1402, .codeWith yL_carries cL_carries 5 (some .int) [(0, 10, 13, 24), (0, 10, 17, 13)]), (1417, .codeWith yL_soonest cL_soonest 5 (some .int) [(0, 10, 13, 24), (0, 10, 17, 13)]), (1424, .codeWith yL_when cL_when 4 (some .int) [(0, 9, 12, 24)]), (1431, .codeWith yL_best cL_best 4 (some .int) [(0, 9, 12, 24)]), (1470, .codeWith yL_shower cL_shower 5 (some .int) [(0, 10, 13, 13)]), (1481, .codeWith yL_cuffs cL_cuffs 4 (some .int) [(0, 9, 12, 13)]), (1517, .codeWith yL_likely cL_likely 3 (some .int) [(0, 8, 11, 13)]), (1524, .codeWith yL_ago cL_ago 4 (some .int) [(0, 9, 12, 13)]), (1531, .codeWith yL_ask cL_ask 3 (some .int) [(0, 8, 11, 13)]), (1540, .codeWith yL_posts cL_posts 4 (some .int) [(0, 9, 12, 24)]), (1563, .codeWith yL_swings cL_swings 4 (some .int) [(0, 9, 12, 24)]), (1574, .codeWith yL_power cL_power 4 (some .int) [(0, 9, 12, 24)]), (1581, .codeWith yL_minds cL_minds 4 (some .int) [(0, 9, 12, 24)]), (1590, .codeWith yL_bargain cL_bargain 5 (some .int) [(0, 10, 13, 24), (0, 10, 17, 13)]), (1609, .codeWith yL_like cL_like 5 (some .int) [(0, 10, 13, 24), (0, 10, 17, 13)]), (1616, .codeWith yL_dry cL_dry 4 (some .int) [(0, 9, 12, 13)]), (1623, .codeWith yL_drought cL_drought 4 (some .int) [(0, 9, 12, 13)])]
set_option maxRecDepth 100000 in
theorem xK20 : ∀ q ∈ xL20, lw_tbl[q.1]? = some q.2 ∧ goodWord q.2 = true := by decide +kernel
theorem x480 : .codeWith yL_hat cL_hat 5 (some .int) [(0, 17, 20, 24)] ∈ zTg := zin_of (xK20 _ (List.mem_of_getElem? (i := 0) (show xL20[0]? = some (1349, .codeWith yL_hat cL_hat 5 (some .int) [(0, 17, 20, 24)]) from rfl)))
theorem x481 : .codeWith yL_out cL_out 5 (some .int) [(0, 17, 20, 24)] ∈ zTg := zin_of (xK20 _ (List.mem_of_getElem? (i := 1) (show xL20[1]? = some (1357, .codeWith yL_out cL_out 5 (some .int) [(0, 17, 20, 24)]) from rfl)))
theorem x482 : .codeWith yL_walk cL_walk 5 (some .int) [(0, 10, 13, 24)] ∈ zTg := zin_of (xK20 _ (List.mem_of_getElem? (i := 2) (show xL20[2]? = some (1364, .codeWith yL_walk cL_walk 5 (some .int) [(0, 10, 13, 24)]) from rfl)))
theorem x483 : .codeWith yL_mind cL_mind 5 (some .int) [(0, 17, 20, 24), (0, 17, 24, 54)] ∈ zTg := zin_of (xK20 _ (List.mem_of_getElem? (i := 3) (show xL20[3]? = some (1371, .codeWith yL_mind cL_mind 5 (some .int) [(0, 17, 20, 24), (0, 17, 24, 54)]) from rfl)))
theorem x484 : .codeWith yL_seat cL_seat 5 (some .int) [(0, 10, 13, 24), (0, 10, 17, 13)] ∈ zTg := zin_of (xK20 _ (List.mem_of_getElem? (i := 4) (show xL20[4]? = some (1378, .codeWith yL_seat cL_seat 5 (some .int) [(0, 10, 13, 24), (0, 10, 17, 13)]) from rfl)))
theorem x485 : .codeWith yL_renew cL_renew 4 (some .int) [(0, 9, 12, 24), (0, 9, 15, 54)] ∈ zTg := zin_of (xK20 _ (List.mem_of_getElem? (i := 5) (show xL20[5]? = some (1385, .codeWith yL_renew cL_renew 4 (some .int) [(0, 9, 12, 24), (0, 9, 15, 54)]) from rfl)))
theorem x486 : .codeWith yL_chance cL_chance 5 (some .int) [(0, 10, 13, 24), (0, 10, 17, 13)] ∈ zTg := zin_of (xK20 _ (List.mem_of_getElem? (i := 6) (show xL20[6]? = some (1393, .codeWith yL_chance cL_chance 5 (some .int) [(0, 10, 13, 24), (0, 10, 17, 13)]) from rfl)))
theorem x487 : .codeWith yL_carries cL_carries 5 (some .int) [(0, 10, 13, 24), (0, 10, 17, 13)] ∈ zTg := zin_of (xK20 _ (List.mem_of_getElem? (i := 7) (show xL20[7]? = some (1402, .codeWith yL_carries cL_carries 5 (some .int) [(0, 10, 13, 24), (0, 10, 17, 13)]) from rfl)))
theorem x488 : .codeWith yL_soonest cL_soonest 5 (some .int) [(0, 10, 13, 24), (0, 10, 17, 13)] ∈ zTg := zin_of (xK20 _ (List.mem_of_getElem? (i := 8) (show xL20[8]? = some (1417, .codeWith yL_soonest cL_soonest 5 (some .int) [(0, 10, 13, 24), (0, 10, 17, 13)]) from rfl)))
theorem x489 : .codeWith yL_when cL_when 4 (some .int) [(0, 9, 12, 24)] ∈ zTg := zin_of (xK20 _ (List.mem_of_getElem? (i := 9) (show xL20[9]? = some (1424, .codeWith yL_when cL_when 4 (some .int) [(0, 9, 12, 24)]) from rfl)))
theorem x490 : .codeWith yL_best cL_best 4 (some .int) [(0, 9, 12, 24)] ∈ zTg := zin_of (xK20 _ (List.mem_of_getElem? (i := 10) (show xL20[10]? = some (1431, .codeWith yL_best cL_best 4 (some .int) [(0, 9, 12, 24)]) from rfl)))
theorem x491 : .codeWith yL_shower cL_shower 5 (some .int) [(0, 10, 13, 13)] ∈ zTg := zin_of (xK20 _ (List.mem_of_getElem? (i := 11) (show xL20[11]? = some (1470, .codeWith yL_shower cL_shower 5 (some .int) [(0, 10, 13, 13)]) from rfl)))
theorem x492 : .codeWith yL_cuffs cL_cuffs 4 (some .int) [(0, 9, 12, 13)] ∈ zTg := zin_of (xK20 _ (List.mem_of_getElem? (i := 12) (show xL20[12]? = some (1481, .codeWith yL_cuffs cL_cuffs 4 (some .int) [(0, 9, 12, 13)]) from rfl)))
theorem x493 : .codeWith yL_likely cL_likely 3 (some .int) [(0, 8, 11, 13)] ∈ zTg := zin_of (xK20 _ (List.mem_of_getElem? (i := 13) (show xL20[13]? = some (1517, .codeWith yL_likely cL_likely 3 (some .int) [(0, 8, 11, 13)]) from rfl)))
theorem x494 : .codeWith yL_ago cL_ago 4 (some .int) [(0, 9, 12, 13)] ∈ zTg := zin_of (xK20 _ (List.mem_of_getElem? (i := 14) (show xL20[14]? = some (1524, .codeWith yL_ago cL_ago 4 (some .int) [(0, 9, 12, 13)]) from rfl)))
theorem x495 : .codeWith yL_ask cL_ask 3 (some .int) [(0, 8, 11, 13)] ∈ zTg := zin_of (xK20 _ (List.mem_of_getElem? (i := 15) (show xL20[15]? = some (1531, .codeWith yL_ask cL_ask 3 (some .int) [(0, 8, 11, 13)]) from rfl)))
theorem x496 : .codeWith yL_posts cL_posts 4 (some .int) [(0, 9, 12, 24)] ∈ zTg := zin_of (xK20 _ (List.mem_of_getElem? (i := 16) (show xL20[16]? = some (1540, .codeWith yL_posts cL_posts 4 (some .int) [(0, 9, 12, 24)]) from rfl)))
theorem x497 : .codeWith yL_swings cL_swings 4 (some .int) [(0, 9, 12, 24)] ∈ zTg := zin_of (xK20 _ (List.mem_of_getElem? (i := 17) (show xL20[17]? = some (1563, .codeWith yL_swings cL_swings 4 (some .int) [(0, 9, 12, 24)]) from rfl)))
theorem x498 : .codeWith yL_power cL_power 4 (some .int) [(0, 9, 12, 24)] ∈ zTg := zin_of (xK20 _ (List.mem_of_getElem? (i := 18) (show xL20[18]? = some (1574, .codeWith yL_power cL_power 4 (some .int) [(0, 9, 12, 24)]) from rfl)))
theorem x499 : .codeWith yL_minds cL_minds 4 (some .int) [(0, 9, 12, 24)] ∈ zTg := zin_of (xK20 _ (List.mem_of_getElem? (i := 19) (show xL20[19]? = some (1581, .codeWith yL_minds cL_minds 4 (some .int) [(0, 9, 12, 24)]) from rfl)))
theorem x500 : .codeWith yL_bargain cL_bargain 5 (some .int) [(0, 10, 13, 24), (0, 10, 17, 13)] ∈ zTg := zin_of (xK20 _ (List.mem_of_getElem? (i := 20) (show xL20[20]? = some (1590, .codeWith yL_bargain cL_bargain 5 (some .int) [(0, 10, 13, 24), (0, 10, 17, 13)]) from rfl)))
theorem x501 : .codeWith yL_like cL_like 5 (some .int) [(0, 10, 13, 24), (0, 10, 17, 13)] ∈ zTg := zin_of (xK20 _ (List.mem_of_getElem? (i := 21) (show xL20[21]? = some (1609, .codeWith yL_like cL_like 5 (some .int) [(0, 10, 13, 24), (0, 10, 17, 13)]) from rfl)))
theorem x502 : .codeWith yL_dry cL_dry 4 (some .int) [(0, 9, 12, 13)] ∈ zTg := zin_of (xK20 _ (List.mem_of_getElem? (i := 22) (show xL20[22]? = some (1616, .codeWith yL_dry cL_dry 4 (some .int) [(0, 9, 12, 13)]) from rfl)))
theorem x503 : .codeWith yL_drought cL_drought 4 (some .int) [(0, 9, 12, 13)] ∈ zTg := zin_of (xK20 _ (List.mem_of_getElem? (i := 23) (show xL20[23]? = some (1623, .codeWith yL_drought cL_drought 4 (some .int) [(0, 9, 12, 13)]) from rfl)))
def xL21 : List (Nat × Cond) := [(1630, .codeWith yL_rests cL_rests 4 (some .int) [(0, 9, 12, 24)]), (1642, .codeWith yL_trial cL_trial 5 (some .int) [(0, 10, 13, 13)]), (1653, .codeWith yL_span cL_span 5 (some .int) [(0, 10, 13, 13)]), (1660, .codeWith yL_led cL_led 5 (some .int) [(0, 10, 13, 24)]), (1671, .codeWith yL_log cL_log 5 (some .int) [(0, 10, 13, 26)]), (805, .classLink RL 13 "java/lang/IllegalArgumentException"), (806, .classLink RL 15 "java/lang/UnsupportedOperationException"), (1164, .classLink RL 24 "java/lang/IndexOutOfBoundsException"), (1165, .classLink RL 26 "java/util/NoSuchElementException"), (1309, .classLink RL 54 "java/lang/IllegalStateException")]
set_option maxRecDepth 100000 in
theorem xK21 : ∀ q ∈ xL21, lw_tbl[q.1]? = some q.2 ∧ goodWord q.2 = true := by decide +kernel
theorem x504 : .codeWith yL_rests cL_rests 4 (some .int) [(0, 9, 12, 24)] ∈ zTg := zin_of (xK21 _ (List.mem_of_getElem? (i := 0) (show xL21[0]? = some (1630, .codeWith yL_rests cL_rests 4 (some .int) [(0, 9, 12, 24)]) from rfl)))
theorem x505 : .codeWith yL_trial cL_trial 5 (some .int) [(0, 10, 13, 13)] ∈ zTg := zin_of (xK21 _ (List.mem_of_getElem? (i := 1) (show xL21[1]? = some (1642, .codeWith yL_trial cL_trial 5 (some .int) [(0, 10, 13, 13)]) from rfl)))
theorem x506 : .codeWith yL_span cL_span 5 (some .int) [(0, 10, 13, 13)] ∈ zTg := zin_of (xK21 _ (List.mem_of_getElem? (i := 2) (show xL21[2]? = some (1653, .codeWith yL_span cL_span 5 (some .int) [(0, 10, 13, 13)]) from rfl)))
theorem x507 : .codeWith yL_led cL_led 5 (some .int) [(0, 10, 13, 24)] ∈ zTg := zin_of (xK21 _ (List.mem_of_getElem? (i := 3) (show xL21[3]? = some (1660, .codeWith yL_led cL_led 5 (some .int) [(0, 10, 13, 24)]) from rfl)))
theorem x508 : .codeWith yL_log cL_log 5 (some .int) [(0, 10, 13, 26)] ∈ zTg := zin_of (xK21 _ (List.mem_of_getElem? (i := 4) (show xL21[4]? = some (1671, .codeWith yL_log cL_log 5 (some .int) [(0, 10, 13, 26)]) from rfl)))
theorem x509 : .classLink RL 13 "java/lang/IllegalArgumentException" ∈ zTg := zin_of (xK21 _ (List.mem_of_getElem? (i := 5) (show xL21[5]? = some (805, .classLink RL 13 "java/lang/IllegalArgumentException") from rfl)))
theorem x510 : .classLink RL 15 "java/lang/UnsupportedOperationException" ∈ zTg := zin_of (xK21 _ (List.mem_of_getElem? (i := 6) (show xL21[6]? = some (806, .classLink RL 15 "java/lang/UnsupportedOperationException") from rfl)))
theorem x511 : .classLink RL 24 "java/lang/IndexOutOfBoundsException" ∈ zTg := zin_of (xK21 _ (List.mem_of_getElem? (i := 7) (show xL21[7]? = some (1164, .classLink RL 24 "java/lang/IndexOutOfBoundsException") from rfl)))
theorem x512 : .classLink RL 26 "java/util/NoSuchElementException" ∈ zTg := zin_of (xK21 _ (List.mem_of_getElem? (i := 8) (show xL21[8]? = some (1165, .classLink RL 26 "java/util/NoSuchElementException") from rfl)))
theorem x513 : .classLink RL 54 "java/lang/IllegalStateException" ∈ zTg := zin_of (xK21 _ (List.mem_of_getElem? (i := 9) (show xL21[9]? = some (1309, .classLink RL 54 "java/lang/IllegalStateException") from rfl)))
theorem gL0 : ∀ q ∈ ([(KL_coast, 2), (KL_law, 2), (KL_member, 4), (KL_motion, 4), (KL_follows, 4), (KL_exposed, 3), (KL_paper, 3), (KL_felt, 5), (KL_goes, 5), (KL_hours, 3), (KL_table, 4), (KL_clear, 3), (KL_hat, 4), (KL_out, 4), (KL_walk, 4), (KL_mind, 4)] : List (zK × Nat)), plainName q.1.1.cls = true ∧ (q.1.1.cls ≠ "java/lang/invoke/MethodHandle" ∧ q.1.1.cls ≠ "java/lang/invoke/VarHandle" ∧ (parseMethodDescriptor q.1.1.desc).map (fun d => d.parameters.length) = some q.2) ∧ q.1.2.2.1 ≤ 40 := by decide +kernel
theorem gL_coast : zGood KL_coast 2 := by
  obtain ⟨h1, h2, h3⟩ := gL0 (KL_coast, 2) (List.mem_of_getElem? (i := 0) rfl)
  exact ⟨h1, x467, h2, h3, x468⟩
theorem gL_law : zGood KL_law 2 := by
  obtain ⟨h1, h2, h3⟩ := gL0 (KL_law, 2) (List.mem_of_getElem? (i := 1) rfl)
  exact ⟨h1, x469, h2, h3, x468⟩
theorem gL_member : zGood KL_member 4 := by
  obtain ⟨h1, h2, h3⟩ := gL0 (KL_member, 4) (List.mem_of_getElem? (i := 2) rfl)
  exact ⟨h1, x470, h2, h3, x468⟩
theorem gL_motion : zGood KL_motion 4 := by
  obtain ⟨h1, h2, h3⟩ := gL0 (KL_motion, 4) (List.mem_of_getElem? (i := 3) rfl)
  exact ⟨h1, x471, h2, h3, x468⟩
theorem gL_follows : zGood KL_follows 4 := by
  obtain ⟨h1, h2, h3⟩ := gL0 (KL_follows, 4) (List.mem_of_getElem? (i := 4) rfl)
  exact ⟨h1, x472, h2, h3, x468⟩
theorem gL_exposed : zGood KL_exposed 3 := by
  obtain ⟨h1, h2, h3⟩ := gL0 (KL_exposed, 3) (List.mem_of_getElem? (i := 5) rfl)
  exact ⟨h1, x473, h2, h3, x468⟩
theorem gL_paper : zGood KL_paper 3 := by
  obtain ⟨h1, h2, h3⟩ := gL0 (KL_paper, 3) (List.mem_of_getElem? (i := 6) rfl)
  exact ⟨h1, x474, h2, h3, x468⟩
theorem gL_felt : zGood KL_felt 5 := by
  obtain ⟨h1, h2, h3⟩ := gL0 (KL_felt, 5) (List.mem_of_getElem? (i := 7) rfl)
  exact ⟨h1, x475, h2, h3, x468⟩
theorem gL_goes : zGood KL_goes 5 := by
  obtain ⟨h1, h2, h3⟩ := gL0 (KL_goes, 5) (List.mem_of_getElem? (i := 8) rfl)
  exact ⟨h1, x476, h2, h3, x468⟩
theorem gL_hours : zGood KL_hours 3 := by
  obtain ⟨h1, h2, h3⟩ := gL0 (KL_hours, 3) (List.mem_of_getElem? (i := 9) rfl)
  exact ⟨h1, x477, h2, h3, x468⟩
theorem gL_table : zGood KL_table 4 := by
  obtain ⟨h1, h2, h3⟩ := gL0 (KL_table, 4) (List.mem_of_getElem? (i := 10) rfl)
  exact ⟨h1, x478, h2, h3, x468⟩
theorem gL_clear : zGood KL_clear 3 := by
  obtain ⟨h1, h2, h3⟩ := gL0 (KL_clear, 3) (List.mem_of_getElem? (i := 11) rfl)
  exact ⟨h1, x479, h2, h3, x468⟩
theorem gL_hat : zGood KL_hat 4 := by
  obtain ⟨h1, h2, h3⟩ := gL0 (KL_hat, 4) (List.mem_of_getElem? (i := 12) rfl)
  exact ⟨h1, x480, h2, h3, x468⟩
theorem gL_out : zGood KL_out 4 := by
  obtain ⟨h1, h2, h3⟩ := gL0 (KL_out, 4) (List.mem_of_getElem? (i := 13) rfl)
  exact ⟨h1, x481, h2, h3, x468⟩
theorem gL_walk : zGood KL_walk 4 := by
  obtain ⟨h1, h2, h3⟩ := gL0 (KL_walk, 4) (List.mem_of_getElem? (i := 14) rfl)
  exact ⟨h1, x482, h2, h3, x468⟩
theorem gL_mind : zGood KL_mind 4 := by
  obtain ⟨h1, h2, h3⟩ := gL0 (KL_mind, 4) (List.mem_of_getElem? (i := 15) rfl)
  exact ⟨h1, x483, h2, h3, x468⟩
theorem gL1 : ∀ q ∈ ([(KL_seat, 4), (KL_renew, 3), (KL_chance, 4), (KL_carries, 4), (KL_soonest, 4), (KL_when, 3), (KL_best, 3), (KL_shower, 4), (KL_cuffs, 3), (KL_likely, 2), (KL_ago, 3), (KL_ask, 2), (KL_posts, 3), (KL_swings, 3), (KL_power, 3), (KL_minds, 3)] : List (zK × Nat)), plainName q.1.1.cls = true ∧ (q.1.1.cls ≠ "java/lang/invoke/MethodHandle" ∧ q.1.1.cls ≠ "java/lang/invoke/VarHandle" ∧ (parseMethodDescriptor q.1.1.desc).map (fun d => d.parameters.length) = some q.2) ∧ q.1.2.2.1 ≤ 40 := by decide +kernel
theorem gL_seat : zGood KL_seat 4 := by
  obtain ⟨h1, h2, h3⟩ := gL1 (KL_seat, 4) (List.mem_of_getElem? (i := 0) rfl)
  exact ⟨h1, x484, h2, h3, x468⟩
theorem gL_renew : zGood KL_renew 3 := by
  obtain ⟨h1, h2, h3⟩ := gL1 (KL_renew, 3) (List.mem_of_getElem? (i := 1) rfl)
  exact ⟨h1, x485, h2, h3, x468⟩
theorem gL_chance : zGood KL_chance 4 := by
  obtain ⟨h1, h2, h3⟩ := gL1 (KL_chance, 4) (List.mem_of_getElem? (i := 2) rfl)
  exact ⟨h1, x486, h2, h3, x468⟩
theorem gL_carries : zGood KL_carries 4 := by
  obtain ⟨h1, h2, h3⟩ := gL1 (KL_carries, 4) (List.mem_of_getElem? (i := 3) rfl)
  exact ⟨h1, x487, h2, h3, x468⟩
theorem gL_soonest : zGood KL_soonest 4 := by
  obtain ⟨h1, h2, h3⟩ := gL1 (KL_soonest, 4) (List.mem_of_getElem? (i := 4) rfl)
  exact ⟨h1, x488, h2, h3, x468⟩
theorem gL_when : zGood KL_when 3 := by
  obtain ⟨h1, h2, h3⟩ := gL1 (KL_when, 3) (List.mem_of_getElem? (i := 5) rfl)
  exact ⟨h1, x489, h2, h3, x468⟩
theorem gL_best : zGood KL_best 3 := by
  obtain ⟨h1, h2, h3⟩ := gL1 (KL_best, 3) (List.mem_of_getElem? (i := 6) rfl)
  exact ⟨h1, x490, h2, h3, x468⟩
theorem gL_shower : zGood KL_shower 4 := by
  obtain ⟨h1, h2, h3⟩ := gL1 (KL_shower, 4) (List.mem_of_getElem? (i := 7) rfl)
  exact ⟨h1, x491, h2, h3, x468⟩
theorem gL_cuffs : zGood KL_cuffs 3 := by
  obtain ⟨h1, h2, h3⟩ := gL1 (KL_cuffs, 3) (List.mem_of_getElem? (i := 8) rfl)
  exact ⟨h1, x492, h2, h3, x468⟩
theorem gL_likely : zGood KL_likely 2 := by
  obtain ⟨h1, h2, h3⟩ := gL1 (KL_likely, 2) (List.mem_of_getElem? (i := 9) rfl)
  exact ⟨h1, x493, h2, h3, x468⟩
theorem gL_ago : zGood KL_ago 3 := by
  obtain ⟨h1, h2, h3⟩ := gL1 (KL_ago, 3) (List.mem_of_getElem? (i := 10) rfl)
  exact ⟨h1, x494, h2, h3, x468⟩
theorem gL_ask : zGood KL_ask 2 := by
  obtain ⟨h1, h2, h3⟩ := gL1 (KL_ask, 2) (List.mem_of_getElem? (i := 11) rfl)
  exact ⟨h1, x495, h2, h3, x468⟩
theorem gL_posts : zGood KL_posts 3 := by
  obtain ⟨h1, h2, h3⟩ := gL1 (KL_posts, 3) (List.mem_of_getElem? (i := 12) rfl)
  exact ⟨h1, x496, h2, h3, x468⟩
theorem gL_swings : zGood KL_swings 3 := by
  obtain ⟨h1, h2, h3⟩ := gL1 (KL_swings, 3) (List.mem_of_getElem? (i := 13) rfl)
  exact ⟨h1, x497, h2, h3, x468⟩
theorem gL_power : zGood KL_power 3 := by
  obtain ⟨h1, h2, h3⟩ := gL1 (KL_power, 3) (List.mem_of_getElem? (i := 14) rfl)
  exact ⟨h1, x498, h2, h3, x468⟩
theorem gL_minds : zGood KL_minds 3 := by
  obtain ⟨h1, h2, h3⟩ := gL1 (KL_minds, 3) (List.mem_of_getElem? (i := 15) rfl)
  exact ⟨h1, x499, h2, h3, x468⟩
theorem gL2 : ∀ q ∈ ([(KL_bargain, 4), (KL_like, 4), (KL_dry, 3), (KL_drought, 3), (KL_rests, 3), (KL_trial, 4), (KL_span, 4), (KL_led, 4), (KL_log, 4)] : List (zK × Nat)), plainName q.1.1.cls = true ∧ (q.1.1.cls ≠ "java/lang/invoke/MethodHandle" ∧ q.1.1.cls ≠ "java/lang/invoke/VarHandle" ∧ (parseMethodDescriptor q.1.1.desc).map (fun d => d.parameters.length) = some q.2) ∧ q.1.2.2.1 ≤ 40 := by decide +kernel
theorem gL_bargain : zGood KL_bargain 4 := by
  obtain ⟨h1, h2, h3⟩ := gL2 (KL_bargain, 4) (List.mem_of_getElem? (i := 0) rfl)
  exact ⟨h1, x500, h2, h3, x468⟩
theorem gL_like : zGood KL_like 4 := by
  obtain ⟨h1, h2, h3⟩ := gL2 (KL_like, 4) (List.mem_of_getElem? (i := 1) rfl)
  exact ⟨h1, x501, h2, h3, x468⟩
theorem gL_dry : zGood KL_dry 3 := by
  obtain ⟨h1, h2, h3⟩ := gL2 (KL_dry, 3) (List.mem_of_getElem? (i := 2) rfl)
  exact ⟨h1, x502, h2, h3, x468⟩
theorem gL_drought : zGood KL_drought 3 := by
  obtain ⟨h1, h2, h3⟩ := gL2 (KL_drought, 3) (List.mem_of_getElem? (i := 3) rfl)
  exact ⟨h1, x503, h2, h3, x468⟩
theorem gL_rests : zGood KL_rests 3 := by
  obtain ⟨h1, h2, h3⟩ := gL2 (KL_rests, 3) (List.mem_of_getElem? (i := 4) rfl)
  exact ⟨h1, x504, h2, h3, x468⟩
theorem gL_trial : zGood KL_trial 4 := by
  obtain ⟨h1, h2, h3⟩ := gL2 (KL_trial, 4) (List.mem_of_getElem? (i := 5) rfl)
  exact ⟨h1, x505, h2, h3, x468⟩
theorem gL_span : zGood KL_span 4 := by
  obtain ⟨h1, h2, h3⟩ := gL2 (KL_span, 4) (List.mem_of_getElem? (i := 6) rfl)
  exact ⟨h1, x506, h2, h3, x468⟩
theorem gL_led : zGood KL_led 4 := by
  obtain ⟨h1, h2, h3⟩ := gL2 (KL_led, 4) (List.mem_of_getElem? (i := 7) rfl)
  exact ⟨h1, x507, h2, h3, x468⟩
theorem gL_log : zGood KL_log 4 := by
  obtain ⟨h1, h2, h3⟩ := gL2 (KL_log, 4) (List.mem_of_getElem? (i := 8) rfl)
  exact ⟨h1, x508, h2, h3, x468⟩
theorem vL_7 : zVc RL 7 KX11_coast 0 11 := ⟨gX11_coast, rfl, ⟨x0, x1, x2⟩, (RX11, TX11, 15), rfl, rfl⟩
theorem vL_17 : zVc RL 17 KX11_law 0 11 := ⟨gX11_law, rfl, ⟨x3, x4, x5⟩, (RX11, TX11, 15), rfl, rfl⟩
theorem vL_20 : zVc RL 20 KX11_member 2 11 := ⟨gX11_member, rfl, ⟨x6, x7, x8⟩, (RX11, TX11, 15), rfl, rfl⟩
theorem vL_28 : zVc RL 28 KX11_motion 2 11 := ⟨gX11_motion, rfl, ⟨x9, x10, x11⟩, (RX11, TX11, 15), rfl, rfl⟩
theorem vL_31 : zVc RL 31 KX11_follows 2 11 := ⟨gX11_follows, rfl, ⟨x12, x13, x14⟩, (RX11, TX11, 15), rfl, rfl⟩
theorem vL_34 : zVc RL 34 KX11_exposed 1 11 := ⟨gX11_exposed, rfl, ⟨x15, x16, x17⟩, (RX11, TX11, 15), rfl, rfl⟩
theorem vL_38 : zVc RL 38 KX11_paper 1 11 := ⟨gX11_paper, rfl, ⟨x18, x19, x20⟩, (RX11, TX11, 15), rfl, rfl⟩
theorem vL_41 : zVc RL 41 KX11_felt 3 11 := ⟨gX11_felt, rfl, ⟨x21, x22, x23⟩, (RX11, TX11, 15), rfl, rfl⟩
theorem vL_45 : zVc RL 45 KX11_goes 3 11 := ⟨gX11_goes, rfl, ⟨x24, x25, x26⟩, (RX11, TX11, 15), rfl, rfl⟩
theorem vL_48 : zVc RL 48 KX11_hours 1 11 := ⟨gX11_hours, rfl, ⟨x27, x28, x29⟩, (RX11, TX11, 15), rfl, rfl⟩
theorem vL_51 : zVc RL 51 KX11_table 2 11 := ⟨gX11_table, rfl, ⟨x30, x31, x32⟩, (RX11, TX11, 15), rfl, rfl⟩
theorem vL_56 : zVc RL 56 KX11_clear 1 11 := ⟨gX11_clear, rfl, ⟨x33, x34, x35⟩, (RX11, TX11, 15), rfl, rfl⟩
theorem vL_59 : zVc RL 59 KX11_hat 2 11 := ⟨gX11_hat, rfl, ⟨x36, x37, x38⟩, (RX11, TX11, 15), rfl, rfl⟩
theorem vL_63 : zVc RL 63 KX11_out 2 11 := ⟨gX11_out, rfl, ⟨x39, x40, x41⟩, (RX11, TX11, 15), rfl, rfl⟩
theorem vL_66 : zVc RL 66 KX11_walk 2 11 := ⟨gX11_walk, rfl, ⟨x42, x43, x44⟩, (RX11, TX11, 15), rfl, rfl⟩
theorem vL_69 : zVc RL 69 KX11_mind 2 11 := ⟨gX11_mind, rfl, ⟨x45, x46, x47⟩, (RX11, TX11, 15), rfl, rfl⟩
theorem vL_73 : zVc RL 73 KX11_seat 2 11 := ⟨gX11_seat, rfl, ⟨x48, x49, x50⟩, (RX11, TX11, 15), rfl, rfl⟩
theorem vL_76 : zVc RL 76 KX11_renew 1 11 := ⟨gX11_renew, rfl, ⟨x51, x52, x53⟩, (RX11, TX11, 15), rfl, rfl⟩
theorem vL_79 : zVc RL 79 KX11_chance 2 11 := ⟨gX11_chance, rfl, ⟨x54, x55, x56⟩, (RX11, TX11, 15), rfl, rfl⟩
theorem vL_82 : zVc RL 82 KX11_carries 2 11 := ⟨gX11_carries, rfl, ⟨x57, x58, x59⟩, (RX11, TX11, 15), rfl, rfl⟩
theorem vL_85 : zVc RL 85 KX11_soonest 2 11 := ⟨gX11_soonest, rfl, ⟨x60, x61, x62⟩, (RX11, TX11, 15), rfl, rfl⟩
theorem vL_88 : zVc RL 88 KX11_when 1 11 := ⟨gX11_when, rfl, ⟨x63, x64, x65⟩, (RX11, TX11, 15), rfl, rfl⟩
theorem vL_91 : zVc RL 91 KX11_best 1 11 := ⟨gX11_best, rfl, ⟨x66, x67, x68⟩, (RX11, TX11, 15), rfl, rfl⟩
theorem vL_94 : zVc RL 94 KX11_shower 2 11 := ⟨gX11_shower, rfl, ⟨x69, x70, x71⟩, (RX11, TX11, 15), rfl, rfl⟩
theorem vL_98 : zVc RL 98 KX11_cuffs 1 11 := ⟨gX11_cuffs, rfl, ⟨x72, x73, x74⟩, (RX11, TX11, 15), rfl, rfl⟩
theorem vL_102 : zVc RL 102 KX11_likely 0 11 := ⟨gX11_likely, rfl, ⟨x75, x76, x77⟩, (RX11, TX11, 15), rfl, rfl⟩
theorem vL_105 : zVc RL 105 KX11_ago 1 11 := ⟨gX11_ago, rfl, ⟨x78, x79, x80⟩, (RX11, TX11, 15), rfl, rfl⟩
theorem vL_108 : zVc RL 108 KX11_ask 0 11 := ⟨gX11_ask, rfl, ⟨x81, x82, x83⟩, (RX11, TX11, 15), rfl, rfl⟩
theorem vL_111 : zVc RL 111 KX11_posts 1 11 := ⟨gX11_posts, rfl, ⟨x84, x85, x86⟩, (RX11, TX11, 15), rfl, rfl⟩
theorem vL_114 : zVc RL 114 KX11_swings 1 11 := ⟨gX11_swings, rfl, ⟨x87, x88, x89⟩, (RX11, TX11, 15), rfl, rfl⟩
theorem vL_117 : zVc RL 117 KX11_power 1 11 := ⟨gX11_power, rfl, ⟨x90, x91, x92⟩, (RX11, TX11, 15), rfl, rfl⟩
theorem vL_120 : zVc RL 120 KX11_minds 1 11 := ⟨gX11_minds, rfl, ⟨x93, x94, x95⟩, (RX11, TX11, 15), rfl, rfl⟩
theorem vL_123 : zVc RL 123 KX11_bargain 2 11 := ⟨gX11_bargain, rfl, ⟨x96, x97, x98⟩, (RX11, TX11, 15), rfl, rfl⟩
theorem vL_126 : zVc RL 126 KX11_like 2 11 := ⟨gX11_like, rfl, ⟨x99, x100, x101⟩, (RX11, TX11, 15), rfl, rfl⟩
theorem vL_129 : zVc RL 129 KX11_dry 1 11 := ⟨gX11_dry, rfl, ⟨x102, x103, x104⟩, (RX11, TX11, 15), rfl, rfl⟩
theorem vL_132 : zVc RL 132 KX11_drought 1 11 := ⟨gX11_drought, rfl, ⟨x105, x106, x107⟩, (RX11, TX11, 15), rfl, rfl⟩
theorem vL_135 : zVc RL 135 KX11_rests 1 11 := ⟨gX11_rests, rfl, ⟨x108, x109, x110⟩, (RX11, TX11, 15), rfl, rfl⟩
theorem vL_138 : zVc RL 138 KX11_trial 2 11 := ⟨gX11_trial, rfl, ⟨x111, x112, x113⟩, (RX11, TX11, 15), rfl, rfl⟩
theorem vL_141 : zVc RL 141 KX11_span 2 11 := ⟨gX11_span, rfl, ⟨x114, x115, x116⟩, (RX11, TX11, 15), rfl, rfl⟩
theorem vL_144 : zVc RL 144 KX11_led 2 11 := ⟨gX11_led, rfl, ⟨x117, x118, x119⟩, (RX11, TX11, 15), rfl, rfl⟩
theorem vL_147 : zVc RL 147 KX11_log 2 11 := ⟨gX11_log, rfl, ⟨x120, x121, x122⟩, (RX11, TX11, 15), rfl, rfl⟩
theorem nL_8 : Cond.classLink RL 8 RX11 ∈ zTg ∧ Cond.instantiable RX11 15 ∈ zTg ∧ Cond.initialized RX11 ∈ zTg := ⟨x123, x124, x125⟩
theorem vL_150 : zIc RL 150 KX11_init 0 := ⟨gX11_init, rfl, ⟨x126, x127, rfl, rfl⟩⟩
theorem nL_151 : Cond.classLink RL 151 RX12 ∈ zTg ∧ Cond.instantiable RX12 26 ∈ zTg ∧ Cond.initialized RX12 ∈ zTg := ⟨x128, x129, x130⟩
theorem vL_153 : zIc RL 153 KX12_init 0 := ⟨gX12_init, rfl, ⟨x131, x132, rfl, rfl⟩⟩
theorem vL_154 : zVc RL 154 KX11_feed 5 11 := ⟨gX11_feed, rfl, ⟨x133, x134, x135⟩, (RX11, TX11, 15), rfl, rfl⟩
theorem vL_158 : zVc RL 158 KX12_feed 5 12 := ⟨gX12_feed, rfl, ⟨x136, x137, x138⟩, (RX12, TX12, 26), rfl, rfl⟩
theorem vL_159 : zVc RL 159 KX11_end 1 11 := ⟨gX11_end, rfl, ⟨x139, x140, x141⟩, (RX11, TX11, 15), rfl, rfl⟩
theorem vL_163 : zVc RL 163 KX12_end 1 12 := ⟨gX12_end, rfl, ⟨x142, x143, x144⟩, (RX12, TX12, 26), rfl, rfl⟩
theorem vL_164 : zXc_ RL 164 KL_coast 2 := ⟨gL_coast, by decide, x146, x145⟩
theorem vL_169 : zVc RL 169 KX12_coast 0 12 := ⟨gX12_coast, rfl, ⟨x147, x148, x149⟩, (RX12, TX12, 26), rfl, rfl⟩
theorem vL_170 : zVc RL 170 KX12_thrown 0 12 := ⟨gX12_thrown, rfl, ⟨x150, x151, x152⟩, (RX12, TX12, 26), rfl, rfl⟩
theorem vL_173 : zXc_ RL 173 KL_law 2 := ⟨gL_law, by decide, x154, x153⟩
theorem vL_175 : zVc RL 175 KX12_law 0 12 := ⟨gX12_law, rfl, ⟨x155, x156, x157⟩, (RX12, TX12, 26), rfl, rfl⟩
theorem vL_176 : zVc RL 176 KX11_fault 0 11 := ⟨gX11_fault, rfl, ⟨x158, x159, x160⟩, (RX11, TX11, 15), rfl, rfl⟩
theorem vL_179 : zVc RL 179 KX12_fault 0 12 := ⟨gX12_fault, rfl, ⟨x161, x162, x163⟩, (RX12, TX12, 26), rfl, rfl⟩
theorem vL_180 : zXc_ RL 180 KL_member 4 := ⟨gL_member, by decide, x165, x164⟩
theorem vL_183 : zVc RL 183 KX12_member 2 12 := ⟨gX12_member, rfl, ⟨x166, x167, x168⟩, (RX12, TX12, 26), rfl, rfl⟩
theorem vL_184 : zXc_ RL 184 KL_motion 4 := ⟨gL_motion, by decide, x170, x169⟩
theorem vL_186 : zVc RL 186 KX12_motion 2 12 := ⟨gX12_motion, rfl, ⟨x171, x172, x173⟩, (RX12, TX12, 26), rfl, rfl⟩
theorem vL_187 : zXc_ RL 187 KL_follows 4 := ⟨gL_follows, by decide, x175, x174⟩
theorem vL_189 : zVc RL 189 KX12_follows 2 12 := ⟨gX12_follows, rfl, ⟨x176, x177, x178⟩, (RX12, TX12, 26), rfl, rfl⟩
theorem vL_190 : zXc_ RL 190 KL_exposed 3 := ⟨gL_exposed, by decide, x180, x179⟩
theorem vL_193 : zVc RL 193 KX12_exposed 1 12 := ⟨gX12_exposed, rfl, ⟨x181, x182, x183⟩, (RX12, TX12, 26), rfl, rfl⟩
theorem vL_194 : zXc_ RL 194 KL_paper 3 := ⟨gL_paper, by decide, x185, x184⟩
theorem vL_196 : zVc RL 196 KX12_paper 1 12 := ⟨gX12_paper, rfl, ⟨x186, x187, x188⟩, (RX12, TX12, 26), rfl, rfl⟩
theorem vL_197 : zXc_ RL 197 KL_felt 5 := ⟨gL_felt, by decide, x190, x189⟩
theorem vL_200 : zVc RL 200 KX12_felt 3 12 := ⟨gX12_felt, rfl, ⟨x191, x192, x193⟩, (RX12, TX12, 26), rfl, rfl⟩
theorem vL_201 : zXc_ RL 201 KL_goes 5 := ⟨gL_goes, by decide, x195, x194⟩
theorem vL_203 : zVc RL 203 KX12_goes 3 12 := ⟨gX12_goes, rfl, ⟨x196, x197, x198⟩, (RX12, TX12, 26), rfl, rfl⟩
theorem vL_204 : zXc_ RL 204 KL_hours 3 := ⟨gL_hours, by decide, x200, x199⟩
theorem vL_206 : zVc RL 206 KX12_hours 1 12 := ⟨gX12_hours, rfl, ⟨x201, x202, x203⟩, (RX12, TX12, 26), rfl, rfl⟩
theorem vL_207 : zXc_ RL 207 KL_table 4 := ⟨gL_table, by decide, x205, x204⟩
theorem vL_209 : zVc RL 209 KX12_table 2 12 := ⟨gX12_table, rfl, ⟨x206, x207, x208⟩, (RX12, TX12, 26), rfl, rfl⟩
theorem vL_210 : zXc_ RL 210 KL_clear 3 := ⟨gL_clear, by decide, x210, x209⟩
theorem vL_212 : zVc RL 212 KX12_clear 1 12 := ⟨gX12_clear, rfl, ⟨x211, x212, x213⟩, (RX12, TX12, 26), rfl, rfl⟩
theorem vL_213 : zXc_ RL 213 KL_hat 4 := ⟨gL_hat, by decide, x215, x214⟩
theorem vL_216 : zVc RL 216 KX12_hat 2 12 := ⟨gX12_hat, rfl, ⟨x216, x217, x218⟩, (RX12, TX12, 26), rfl, rfl⟩
theorem vL_217 : zXc_ RL 217 KL_out 4 := ⟨gL_out, by decide, x220, x219⟩
theorem vL_219 : zVc RL 219 KX12_out 2 12 := ⟨gX12_out, rfl, ⟨x221, x222, x223⟩, (RX12, TX12, 26), rfl, rfl⟩
theorem vL_220 : zXc_ RL 220 KL_walk 4 := ⟨gL_walk, by decide, x225, x224⟩
theorem vL_222 : zVc RL 222 KX12_walk 2 12 := ⟨gX12_walk, rfl, ⟨x226, x227, x228⟩, (RX12, TX12, 26), rfl, rfl⟩
theorem vL_223 : zXc_ RL 223 KL_mind 4 := ⟨gL_mind, by decide, x230, x229⟩
theorem vL_225 : zVc RL 225 KX12_mind 2 12 := ⟨gX12_mind, rfl, ⟨x231, x232, x233⟩, (RX12, TX12, 26), rfl, rfl⟩
theorem vL_226 : zXc_ RL 226 KL_seat 4 := ⟨gL_seat, by decide, x235, x234⟩
theorem vL_228 : zVc RL 228 KX12_seat 2 12 := ⟨gX12_seat, rfl, ⟨x236, x237, x238⟩, (RX12, TX12, 26), rfl, rfl⟩
theorem vL_229 : zXc_ RL 229 KL_renew 3 := ⟨gL_renew, by decide, x240, x239⟩
theorem vL_231 : zVc RL 231 KX12_renew 1 12 := ⟨gX12_renew, rfl, ⟨x241, x242, x243⟩, (RX12, TX12, 26), rfl, rfl⟩
theorem vL_232 : zXc_ RL 232 KL_chance 4 := ⟨gL_chance, by decide, x245, x244⟩
theorem vL_234 : zVc RL 234 KX12_chance 2 12 := ⟨gX12_chance, rfl, ⟨x246, x247, x248⟩, (RX12, TX12, 26), rfl, rfl⟩
theorem vL_235 : zXc_ RL 235 KL_carries 4 := ⟨gL_carries, by decide, x250, x249⟩
theorem vL_237 : zVc RL 237 KX12_carries 2 12 := ⟨gX12_carries, rfl, ⟨x251, x252, x253⟩, (RX12, TX12, 26), rfl, rfl⟩
theorem vL_238 : zXc_ RL 238 KL_soonest 4 := ⟨gL_soonest, by decide, x255, x254⟩
theorem vL_240 : zVc RL 240 KX12_soonest 2 12 := ⟨gX12_soonest, rfl, ⟨x256, x257, x258⟩, (RX12, TX12, 26), rfl, rfl⟩
theorem vL_241 : zXc_ RL 241 KL_when 3 := ⟨gL_when, by decide, x260, x259⟩
theorem vL_243 : zVc RL 243 KX12_when 1 12 := ⟨gX12_when, rfl, ⟨x261, x262, x263⟩, (RX12, TX12, 26), rfl, rfl⟩
theorem vL_244 : zVc RL 244 KX11_worst 0 11 := ⟨gX11_worst, rfl, ⟨x264, x265, x266⟩, (RX11, TX11, 15), rfl, rfl⟩
theorem vL_247 : zVc RL 247 KX12_worst 0 12 := ⟨gX12_worst, rfl, ⟨x267, x268, x269⟩, (RX12, TX12, 26), rfl, rfl⟩
theorem vL_248 : zXc_ RL 248 KL_best 3 := ⟨gL_best, by decide, x271, x270⟩
theorem vL_250 : zVc RL 250 KX12_best 1 12 := ⟨gX12_best, rfl, ⟨x272, x273, x274⟩, (RX12, TX12, 26), rfl, rfl⟩
theorem vL_251 : zXc_ RL 251 KL_shower 4 := ⟨gL_shower, by decide, x276, x275⟩
theorem vL_253 : zVc RL 253 KX12_shower 2 12 := ⟨gX12_shower, rfl, ⟨x277, x278, x279⟩, (RX12, TX12, 26), rfl, rfl⟩
theorem vL_254 : zVc RL 254 KX11_haste 1 11 := ⟨gX11_haste, rfl, ⟨x280, x281, x282⟩, (RX11, TX11, 15), rfl, rfl⟩
theorem vL_257 : zVc RL 257 KX12_haste 1 12 := ⟨gX12_haste, rfl, ⟨x283, x284, x285⟩, (RX12, TX12, 26), rfl, rfl⟩
theorem vL_258 : zXc_ RL 258 KL_cuffs 3 := ⟨gL_cuffs, by decide, x287, x286⟩
theorem vL_261 : zVc RL 261 KX12_cuffs 1 12 := ⟨gX12_cuffs, rfl, ⟨x288, x289, x290⟩, (RX12, TX12, 26), rfl, rfl⟩
theorem vL_262 : zXc_ RL 262 KL_likely 2 := ⟨gL_likely, by decide, x292, x291⟩
theorem vL_264 : zVc RL 264 KX12_likely 0 12 := ⟨gX12_likely, rfl, ⟨x293, x294, x295⟩, (RX12, TX12, 26), rfl, rfl⟩
theorem vL_265 : zXc_ RL 265 KL_ago 3 := ⟨gL_ago, by decide, x297, x296⟩
theorem vL_267 : zVc RL 267 KX12_ago 1 12 := ⟨gX12_ago, rfl, ⟨x298, x299, x300⟩, (RX12, TX12, 26), rfl, rfl⟩
theorem vL_268 : zXc_ RL 268 KL_ask 2 := ⟨gL_ask, by decide, x302, x301⟩
theorem vL_270 : zVc RL 270 KX12_ask 0 12 := ⟨gX12_ask, rfl, ⟨x303, x304, x305⟩, (RX12, TX12, 26), rfl, rfl⟩
theorem vL_271 : zVc RL 271 KX11_windows 0 11 := ⟨gX11_windows, rfl, ⟨x306, x307, x308⟩, (RX11, TX11, 15), rfl, rfl⟩
theorem vL_274 : zVc RL 274 KX12_windows 0 12 := ⟨gX12_windows, rfl, ⟨x309, x310, x311⟩, (RX12, TX12, 26), rfl, rfl⟩
theorem vL_275 : zXc_ RL 275 KL_posts 3 := ⟨gL_posts, by decide, x313, x312⟩
theorem vL_277 : zVc RL 277 KX12_posts 1 12 := ⟨gX12_posts, rfl, ⟨x314, x315, x316⟩, (RX12, TX12, 26), rfl, rfl⟩
theorem vL_278 : zVc RL 278 KX11_wins 1 11 := ⟨gX11_wins, rfl, ⟨x317, x318, x319⟩, (RX11, TX11, 15), rfl, rfl⟩
theorem vL_281 : zVc RL 281 KX12_wins 1 12 := ⟨gX12_wins, rfl, ⟨x320, x321, x322⟩, (RX12, TX12, 26), rfl, rfl⟩
theorem vL_282 : zXc_ RL 282 KL_swings 3 := ⟨gL_swings, by decide, x324, x323⟩
theorem vL_284 : zVc RL 284 KX12_swings 1 12 := ⟨gX12_swings, rfl, ⟨x325, x326, x327⟩, (RX12, TX12, 26), rfl, rfl⟩
theorem vL_285 : zXc_ RL 285 KL_power 3 := ⟨gL_power, by decide, x329, x328⟩
theorem vL_287 : zVc RL 287 KX12_power 1 12 := ⟨gX12_power, rfl, ⟨x330, x331, x332⟩, (RX12, TX12, 26), rfl, rfl⟩
theorem vL_288 : zVc RL 288 KX11_minimal 0 11 := ⟨gX11_minimal, rfl, ⟨x333, x334, x335⟩, (RX11, TX11, 15), rfl, rfl⟩
theorem vL_291 : zVc RL 291 KX12_minimal 0 12 := ⟨gX12_minimal, rfl, ⟨x336, x337, x338⟩, (RX12, TX12, 26), rfl, rfl⟩
theorem vL_292 : zVc RL 292 KX11_leader 0 11 := ⟨gX11_leader, rfl, ⟨x339, x340, x341⟩, (RX11, TX11, 15), rfl, rfl⟩
theorem vL_295 : zVc RL 295 KX12_leader 0 12 := ⟨gX12_leader, rfl, ⟨x342, x343, x344⟩, (RX12, TX12, 26), rfl, rfl⟩
theorem vL_296 : zXc_ RL 296 KL_minds 3 := ⟨gL_minds, by decide, x346, x345⟩
theorem vL_298 : zVc RL 298 KX12_minds 1 12 := ⟨gX12_minds, rfl, ⟨x347, x348, x349⟩, (RX12, TX12, 26), rfl, rfl⟩
theorem vL_299 : zXc_ RL 299 KL_bargain 4 := ⟨gL_bargain, by decide, x351, x350⟩
theorem vL_301 : zVc RL 301 KX12_bargain 2 12 := ⟨gX12_bargain, rfl, ⟨x352, x353, x354⟩, (RX12, TX12, 26), rfl, rfl⟩
theorem vL_302 : zXc_ RL 302 KL_like 4 := ⟨gL_like, by decide, x356, x355⟩
theorem vL_304 : zVc RL 304 KX12_like 2 12 := ⟨gX12_like, rfl, ⟨x357, x358, x359⟩, (RX12, TX12, 26), rfl, rfl⟩
theorem vL_305 : zVc RL 305 KX11_foes 0 11 := ⟨gX11_foes, rfl, ⟨x360, x361, x362⟩, (RX11, TX11, 15), rfl, rfl⟩
theorem vL_308 : zVc RL 308 KX12_foes 0 12 := ⟨gX12_foes, rfl, ⟨x363, x364, x365⟩, (RX12, TX12, 26), rfl, rfl⟩
theorem vL_309 : zXc_ RL 309 KL_dry 3 := ⟨gL_dry, by decide, x367, x366⟩
theorem vL_311 : zVc RL 311 KX12_dry 1 12 := ⟨gX12_dry, rfl, ⟨x368, x369, x370⟩, (RX12, TX12, 26), rfl, rfl⟩
theorem vL_312 : zXc_ RL 312 KL_drought 3 := ⟨gL_drought, by decide, x372, x371⟩
theorem vL_314 : zVc RL 314 KX12_drought 1 12 := ⟨gX12_drought, rfl, ⟨x373, x374, x375⟩, (RX12, TX12, 26), rfl, rfl⟩
theorem vL_315 : zVc RL 315 KX11_quorate 0 11 := ⟨gX11_quorate, rfl, ⟨x376, x377, x378⟩, (RX11, TX11, 15), rfl, rfl⟩
theorem vL_319 : zVc RL 319 KX12_quorate 0 12 := ⟨gX12_quorate, rfl, ⟨x379, x380, x381⟩, (RX12, TX12, 26), rfl, rfl⟩
theorem vL_320 : zVc RL 320 KX11_enough 0 11 := ⟨gX11_enough, rfl, ⟨x382, x383, x384⟩, (RX11, TX11, 15), rfl, rfl⟩
theorem vL_323 : zVc RL 323 KX12_enough 0 12 := ⟨gX12_enough, rfl, ⟨x385, x386, x387⟩, (RX12, TX12, 26), rfl, rfl⟩
theorem vL_324 : zXc_ RL 324 KL_rests 3 := ⟨gL_rests, by decide, x389, x388⟩
theorem vL_326 : zVc RL 326 KX12_rests 1 12 := ⟨gX12_rests, rfl, ⟨x390, x391, x392⟩, (RX12, TX12, 26), rfl, rfl⟩
theorem vL_327 : zVc RL 327 KX11_tabled 0 11 := ⟨gX11_tabled, rfl, ⟨x393, x394, x395⟩, (RX11, TX11, 15), rfl, rfl⟩
theorem vL_330 : zVc RL 330 KX12_tabled 0 12 := ⟨gX12_tabled, rfl, ⟨x396, x397, x398⟩, (RX12, TX12, 26), rfl, rfl⟩
theorem vL_331 : zVc RL 331 KX11_soaked 0 11 := ⟨gX11_soaked, rfl, ⟨x399, x400, x401⟩, (RX11, TX11, 15), rfl, rfl⟩
theorem vL_334 : zVc RL 334 KX12_soaked 0 12 := ⟨gX12_soaked, rfl, ⟨x402, x403, x404⟩, (RX12, TX12, 26), rfl, rfl⟩
theorem vL_335 : zVc RL 335 KX11_twins 0 11 := ⟨gX11_twins, rfl, ⟨x405, x406, x407⟩, (RX11, TX11, 15), rfl, rfl⟩
theorem vL_338 : zVc RL 338 KX12_twins 0 12 := ⟨gX12_twins, rfl, ⟨x408, x409, x410⟩, (RX12, TX12, 26), rfl, rfl⟩
theorem vL_339 : zVc RL 339 KX11_richest 0 11 := ⟨gX11_richest, rfl, ⟨x411, x412, x413⟩, (RX11, TX11, 15), rfl, rfl⟩
theorem vL_342 : zVc RL 342 KX12_richest 0 12 := ⟨gX12_richest, rfl, ⟨x414, x415, x416⟩, (RX12, TX12, 26), rfl, rfl⟩
theorem vL_343 : zXc_ RL 343 KL_trial 4 := ⟨gL_trial, by decide, x418, x417⟩
theorem vL_345 : zVc RL 345 KX12_trial 2 12 := ⟨gX12_trial, rfl, ⟨x419, x420, x421⟩, (RX12, TX12, 26), rfl, rfl⟩
theorem vL_346 : zXc_ RL 346 KL_span 4 := ⟨gL_span, by decide, x423, x422⟩
theorem vL_348 : zVc RL 348 KX12_span 2 12 := ⟨gX12_span, rfl, ⟨x424, x425, x426⟩, (RX12, TX12, 26), rfl, rfl⟩
theorem vL_349 : zXc_ RL 349 KL_led 4 := ⟨gL_led, by decide, x428, x427⟩
theorem vL_351 : zVc RL 351 KX12_led 2 12 := ⟨gX12_led, rfl, ⟨x429, x430, x431⟩, (RX12, TX12, 26), rfl, rfl⟩
theorem vL_352 : zXc_ RL 352 KL_log 4 := ⟨gL_log, by decide, x433, x432⟩
theorem vL_354 : zVc RL 354 KX12_log 2 12 := ⟨gX12_log, rfl, ⟨x434, x435, x436⟩, (RX12, TX12, 26), rfl, rfl⟩
theorem vL_355 : zVc RL 355 KX11_seed 1 11 := ⟨gX11_seed, rfl, ⟨x437, x438, x439⟩, (RX11, TX11, 15), rfl, rfl⟩
theorem vL_358 : zVc RL 358 KX12_seed 1 12 := ⟨gX12_seed, rfl, ⟨x440, x441, x442⟩, (RX12, TX12, 26), rfl, rfl⟩
theorem vL_359 : zVc RL 359 KX11_undo 0 11 := ⟨gX11_undo, rfl, ⟨x443, x444, x445⟩, (RX11, TX11, 15), rfl, rfl⟩
theorem vL_362 : zVc RL 362 KX12_undo 0 12 := ⟨gX12_undo, rfl, ⟨x446, x447, x448⟩, (RX12, TX12, 26), rfl, rfl⟩
theorem vL_363 : zVc RL 363 KX11_image 0 11 := ⟨gX11_image, rfl, ⟨x449, x450, x451⟩, (RX11, TX11, 15), rfl, rfl⟩
theorem vL_366 : zVc RL 366 KX12_image 0 12 := ⟨gX12_image, rfl, ⟨x452, x453, x454⟩, (RX12, TX12, 26), rfl, rfl⟩
theorem vL_367 : zVc RL 367 KX11_back 0 11 := ⟨gX11_back, rfl, ⟨x455, x456, x457⟩, (RX11, TX11, 15), rfl, rfl⟩
theorem vL_370 : zVc RL 370 KX12_back 0 12 := ⟨gX12_back, rfl, ⟨x458, x459, x460⟩, (RX12, TX12, 26), rfl, rfl⟩
theorem vL_371 : zVc RL 371 KX11_count 1 11 := ⟨gX11_count, rfl, ⟨x461, x462, x463⟩, (RX11, TX11, 15), rfl, rfl⟩
theorem vL_374 : zVc RL 374 KX12_count 1 12 := ⟨gX12_count, rfl, ⟨x464, x465, x466⟩, (RX12, TX12, 26), rfl, rfl⟩
theorem cL_13 : Cond.classLink RL 13 "java/lang/IllegalArgumentException" ∈ zTg := x509
theorem cL_15 : Cond.classLink RL 15 "java/lang/UnsupportedOperationException" ∈ zTg := x510
theorem cL_24 : Cond.classLink RL 24 "java/lang/IndexOutOfBoundsException" ∈ zTg := x511
theorem cL_26 : Cond.classLink RL 26 "java/util/NoSuchElementException" ∈ zTg := x512
theorem cL_54 : Cond.classLink RL 54 "java/lang/IllegalStateException" ∈ zTg := x513
