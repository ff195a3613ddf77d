/-! the kinds of cells of this class and of the reference: shape, fields, bounds -/
def h_tab : List (Nat × tO) := [(1, .inl (0, 9)), (2, .inl (1, 4)), (3, .inl (2, 7)), (4, .inl (3, 2)), (5, .inl (4, 9)), (6, .inl (5, 3)), (7, .inl (6, 9)), (8, .inl (7, 13)), (9, .inl (8, 2)), (10, .inl (9, 10)), (11, .inl (10, 4)), (12, .inl (11, 8)), (13, .inl (12, 51)), (50, .inl (0, 9)), (51, .inl (1, 4)), (52, .inl (2, 7)), (53, .inl (3, 2)), (54, .inl (4, 9)), (55, .inl (5, 3)), (56, .inl (6, 9)), (57, .inl (7, 13)), (58, .inl (8, 2)), (59, .inl (9, 10)), (60, .inl (10, 4)), (61, .inl (11, 8)), (62, .inl (12, 51)), (101, .inr (.double, 60)), (104, .inr (.long, 8)), (105, .inr (.boolean, 8)), (106, .inr (.int, 8)), (108, .inr (.int, 8)), (154, .inr (.int, 10)), (300, .inr (.int, 8)), (302, .inr (.boolean, 10)), (303, .inr (.long, 10)), (304, .inr (.long, 10)), (353, .inr (.int, 8)), (354, .inr (.int, 8)), (401, .inr (.float, 10)), (600, .inr (.int, 8)), (601, .inr (.int, 6)), (708, .inr (.int, 8)), (802, .inr (.int, 60)), (803, .inr (.int, 9)), (804, .inr (.int, 60)), (805, .inr (.int, 60)), (806, .inr (.long, 60)), (807, .inr (.int, 60)), (808, .inr (.int, 8)), (811, .inr (.int, 3)), (812, .inr (.int, 3)), (856, .inr (.int, 60)), (900, .inr (.byte, 500)), (1005, .inr (.boolean, 12)), (1006, .inr (.int, 12)), (1007, .inr (.int, 12)), (1008, .inr (.int, 12)), (1009, .inr (.int, 12)), (1100, .inr (.int, 80)), (1101, .inr (.int, 80)), (1102, .inr (.int, 80)), (1103, .inr (.long, 8)), (1153, .inr (.int, 80)), (1300, .inr (.byte, 500)), (1310, .inr (.int, 192)), (1311, .inr (.boolean, 10)), (1314, .inr (.int, 60)), (1315, .inr (.int, 60)), (1316, .inr (.int, 60)), (1317, .inr (.int, 60)), (1318, .inr (.int, 60)), (1319, .inr (.int, 60)), (1320, .inr (.boolean, 60)), (1321, .inr (.boolean, 60)), (1322, .inr (.boolean, 60)), (1323, .inr (.int, 80)), (1324, .inr (.boolean, 8)), (1325, .inr (.int, 80)), (1326, .inr (.int, 80)), (1327, .inr (.int, 80)), (1328, .inr (.int, 80)), (1329, .inr (.int, 80)), (1332, .inr (.int, 8)), (1334, .inr (.int, 12)), (1335, .inr (.int, 12)), (1336, .inr (.int, 12)), (1337, .inr (.int, 12)), (1338, .inr (.int, 1120)), (1339, .inr (.int, 3)), (1340, .inr (.int, 3)), (1342, .inr (.int, 3)), (1343, .inr (.int, 3)), (1346, .inr (.int, 3)), (1347, .inr (.int, 3)), (1348, .inr (.boolean, 8)), (1349, .inr (.int, 8))]
def h_so (t : Nat) : tO := match h_tab.lookup t with
  | some x => x
  | none => .inr (.char, 0)
theorem so_1 : h_so 1 = .inl (0, 9) := rfl
theorem so_2 : h_so 2 = .inl (1, 4) := rfl
theorem so_3 : h_so 3 = .inl (2, 7) := rfl
theorem so_4 : h_so 4 = .inl (3, 2) := rfl
theorem so_5 : h_so 5 = .inl (4, 9) := rfl
theorem so_6 : h_so 6 = .inl (5, 3) := rfl
theorem so_7 : h_so 7 = .inl (6, 9) := rfl
theorem so_8 : h_so 8 = .inl (7, 13) := rfl
theorem so_9 : h_so 9 = .inl (8, 2) := rfl
theorem so_10 : h_so 10 = .inl (9, 10) := rfl
theorem so_11 : h_so 11 = .inl (10, 4) := rfl
theorem so_12 : h_so 12 = .inl (11, 8) := rfl
theorem so_13 : h_so 13 = .inl (12, 51) := rfl
theorem so_50 : h_so 50 = .inl (0, 9) := rfl
theorem so_51 : h_so 51 = .inl (1, 4) := rfl
theorem so_52 : h_so 52 = .inl (2, 7) := rfl
theorem so_53 : h_so 53 = .inl (3, 2) := rfl
theorem so_54 : h_so 54 = .inl (4, 9) := rfl
theorem so_55 : h_so 55 = .inl (5, 3) := rfl
theorem so_56 : h_so 56 = .inl (6, 9) := rfl
theorem so_57 : h_so 57 = .inl (7, 13) := rfl
theorem so_58 : h_so 58 = .inl (8, 2) := rfl
theorem so_59 : h_so 59 = .inl (9, 10) := rfl
theorem so_60 : h_so 60 = .inl (10, 4) := rfl
theorem so_61 : h_so 61 = .inl (11, 8) := rfl
theorem so_62 : h_so 62 = .inl (12, 51) := rfl
theorem so_101 : h_so 101 = .inr (.double, 60) := rfl
theorem so_104 : h_so 104 = .inr (.long, 8) := rfl
theorem so_105 : h_so 105 = .inr (.boolean, 8) := rfl
theorem so_106 : h_so 106 = .inr (.int, 8) := rfl
theorem so_108 : h_so 108 = .inr (.int, 8) := rfl
theorem so_154 : h_so 154 = .inr (.int, 10) := rfl
theorem so_300 : h_so 300 = .inr (.int, 8) := rfl
theorem so_302 : h_so 302 = .inr (.boolean, 10) := rfl
theorem so_303 : h_so 303 = .inr (.long, 10) := rfl
theorem so_304 : h_so 304 = .inr (.long, 10) := rfl
theorem so_353 : h_so 353 = .inr (.int, 8) := rfl
theorem so_354 : h_so 354 = .inr (.int, 8) := rfl
theorem so_401 : h_so 401 = .inr (.float, 10) := rfl
theorem so_600 : h_so 600 = .inr (.int, 8) := rfl
theorem so_601 : h_so 601 = .inr (.int, 6) := rfl
theorem so_708 : h_so 708 = .inr (.int, 8) := rfl
theorem so_802 : h_so 802 = .inr (.int, 60) := rfl
theorem so_803 : h_so 803 = .inr (.int, 9) := rfl
theorem so_804 : h_so 804 = .inr (.int, 60) := rfl
theorem so_805 : h_so 805 = .inr (.int, 60) := rfl
theorem so_806 : h_so 806 = .inr (.long, 60) := rfl
theorem so_807 : h_so 807 = .inr (.int, 60) := rfl
theorem so_808 : h_so 808 = .inr (.int, 8) := rfl
theorem so_811 : h_so 811 = .inr (.int, 3) := rfl
theorem so_812 : h_so 812 = .inr (.int, 3) := rfl
theorem so_856 : h_so 856 = .inr (.int, 60) := rfl
theorem so_900 : h_so 900 = .inr (.byte, 500) := rfl
theorem so_1005 : h_so 1005 = .inr (.boolean, 12) := rfl
theorem so_1006 : h_so 1006 = .inr (.int, 12) := rfl
theorem so_1007 : h_so 1007 = .inr (.int, 12) := rfl
theorem so_1008 : h_so 1008 = .inr (.int, 12) := rfl
theorem so_1009 : h_so 1009 = .inr (.int, 12) := rfl
theorem so_1100 : h_so 1100 = .inr (.int, 80) := rfl
theorem so_1101 : h_so 1101 = .inr (.int, 80) := rfl
theorem so_1102 : h_so 1102 = .inr (.int, 80) := rfl
theorem so_1103 : h_so 1103 = .inr (.long, 8) := rfl
theorem so_1153 : h_so 1153 = .inr (.int, 80) := rfl
theorem so_1300 : h_so 1300 = .inr (.byte, 500) := rfl
theorem so_1310 : h_so 1310 = .inr (.int, 192) := rfl
theorem so_1311 : h_so 1311 = .inr (.boolean, 10) := rfl
theorem so_1314 : h_so 1314 = .inr (.int, 60) := rfl
theorem so_1315 : h_so 1315 = .inr (.int, 60) := rfl
theorem so_1316 : h_so 1316 = .inr (.int, 60) := rfl
theorem so_1317 : h_so 1317 = .inr (.int, 60) := rfl
theorem so_1318 : h_so 1318 = .inr (.int, 60) := rfl
theorem so_1319 : h_so 1319 = .inr (.int, 60) := rfl
theorem so_1320 : h_so 1320 = .inr (.boolean, 60) := rfl
theorem so_1321 : h_so 1321 = .inr (.boolean, 60) := rfl
theorem so_1322 : h_so 1322 = .inr (.boolean, 60) := rfl
theorem so_1323 : h_so 1323 = .inr (.int, 80) := rfl
theorem so_1324 : h_so 1324 = .inr (.boolean, 8) := rfl
theorem so_1325 : h_so 1325 = .inr (.int, 80) := rfl
theorem so_1326 : h_so 1326 = .inr (.int, 80) := rfl
theorem so_1327 : h_so 1327 = .inr (.int, 80) := rfl
theorem so_1328 : h_so 1328 = .inr (.int, 80) := rfl
theorem so_1329 : h_so 1329 = .inr (.int, 80) := rfl
theorem so_1332 : h_so 1332 = .inr (.int, 8) := rfl
theorem so_1334 : h_so 1334 = .inr (.int, 12) := rfl
theorem so_1335 : h_so 1335 = .inr (.int, 12) := rfl
theorem so_1336 : h_so 1336 = .inr (.int, 12) := rfl
theorem so_1337 : h_so 1337 = .inr (.int, 12) := rfl
theorem so_1338 : h_so 1338 = .inr (.int, 1120) := rfl
theorem so_1339 : h_so 1339 = .inr (.int, 3) := rfl
theorem so_1340 : h_so 1340 = .inr (.int, 3) := rfl
theorem so_1342 : h_so 1342 = .inr (.int, 3) := rfl
theorem so_1343 : h_so 1343 = .inr (.int, 3) := rfl
theorem so_1346 : h_so 1346 = .inr (.int, 3) := rfl
theorem so_1347 : h_so 1347 = .inr (.int, 3) := rfl
theorem so_1348 : h_so 1348 = .inr (.boolean, 8) := rfl
theorem so_1349 : h_so 1349 = .inr (.int, 8) := rfl
def h_fkt : List (List tK) := [[.eq, .eq, .lt, .lt, .eq, .eq, .eq, .lt, .eq], [.lt, .lt, .lt, .lt], [.eq, .lt, .eq, .eq, .eq, .gt, .gt], [.eq, .eq], [.eq, .eq, .lt, .lt, .lt, .lt, .lt, .lt, .lt], [.eq, .eq, .lt], [.lt, .lt, .lt, .lt, .lt, .lt, .lt, .lt, .eq], [.eq, .eq, .eq, .eq, .eq, .eq, .eq, .eq, .eq, .lt, .lt, .eq, .eq], [.eq, .lt], [.eq, .eq, .eq, .lt, .lt, .eq, .eq, .eq, .eq, .eq], [.eq, .eq, .eq, .eq], [.eq, .eq, .eq, .eq, .eq, .eq, .eq, .eq], [.eq, .lt, .lt, .lt, .lt, .lt, .lt, .lt, .lt, .lt, .eq, .eq, .lt, .lt, .eq, .eq, .eq, .eq, .eq, .eq, .eq, .eq, .eq, .eq, .eq, .eq, .eq, .eq, .eq, .eq, .lt, .lt, .eq, .lt, .eq, .eq, .eq, .eq, .eq, .eq, .eq, .lt, .eq, .eq, .lt, .lt, .eq, .eq, .eq, .eq, .lt]]
def h_fk (ci k : Nat) : tK := match h_fkt[ci]? with
  | some l => l.getD k .lt
  | none => .lt
def h_bl : List (Nat × Nat × Int × Int) := [(1, 2, 0, 60), (1, 3, 0, 9), (3, 1, 0, 1), (6, 2, 0, 6), (7, 0, -1, 7), (7, 6, 0, 1), (7, 7, 0, 1), (8, 10, 0, 3), (9, 1, 0, 500), (10, 3, 0, 12), (13, 1, 0, 500), (13, 2, 0, 500), (13, 4, -1, 60), (13, 6, 0, 500), (13, 12, 0, 9), (13, 13, 0, 60), (13, 30, 0, 1), (13, 31, 0, 1), (13, 33, 0, 12), (13, 41, 0, 3), (13, 45, 0, 3), (105, 999, 0, 1), (302, 999, 0, 1), (802, 999, 0, 59), (803, 999, 0, 60), (900, 999, -128, 127), (1005, 999, 0, 1), (1008, 999, 0, 7), (1300, 999, -128, 127), (1311, 999, 0, 1), (1314, 999, -1, 7), (1320, 999, 0, 1), (1321, 999, 0, 1), (1322, 999, 0, 1), (1324, 999, 0, 1), (1328, 999, -1, 7), (1332, 999, 0, 7), (1334, 999, 0, 139), (1336, 999, 0, 7), (1342, 999, 0, 7), (1343, 999, 0, 59), (1348, 999, 0, 1)]
def h_lb (k : Nat) : Int × Int := if k % 16 = 8 then (0, 7) else if 8 < k % 16 then (0, 20) else (-2147483648, 2147483647)
def h_bd (t k : Nat) : Int × Int := match t == 1310 with
  | true => h_lb k
  | false => match h_bl.find? (fun q => q.1 == t && (q.2.1 == 999 || q.2.1 == k)) with
    | some q => q.2.2
    | none => (-2147483648, 2147483647)
def h_rl : List (Nat × Nat × Nat × Bool) := [(1, 0, 4, false), (1, 1, 101, false), (1, 4, 104, false), (1, 5, 105, false), (1, 6, 106, false), (1, 8, 108, false), (3, 0, 300, false), (3, 2, 302, false), (3, 3, 303, false), (3, 4, 304, false), (4, 0, 6, false), (4, 1, 401, false), (5, 0, 9, false), (5, 1, 6, false), (6, 0, 600, false), (6, 1, 601, false), (7, 8, 708, false), (8, 0, 1, false), (8, 1, 2, false), (8, 2, 802, false), (8, 3, 803, false), (8, 4, 804, false), (8, 5, 805, false), (8, 6, 806, false), (8, 7, 807, false), (8, 8, 808, false), (8, 11, 811, false), (8, 12, 812, false), (9, 0, 900, false), (10, 0, 1, false), (10, 1, 11, false), (10, 2, 2, false), (10, 5, 1005, false), (10, 6, 1006, false), (10, 7, 1007, false), (10, 8, 1008, false), (10, 9, 1009, false), (11, 0, 1100, false), (11, 1, 1101, false), (11, 2, 1102, false), (11, 3, 1103, false), (12, 0, 9, false), (12, 1, 4, false), (12, 2, 5, false), (12, 3, 1, false), (12, 4, 11, false), (12, 5, 10, false), (12, 6, 8, false), (12, 7, 3, false), (13, 0, 1300, false), (13, 10, 1310, false), (13, 11, 1311, false), (13, 14, 1314, false), (13, 15, 1315, false), (13, 16, 1316, false), (13, 17, 1317, false), (13, 18, 1318, false), (13, 19, 1319, false), (13, 20, 1320, false), (13, 21, 1321, false), (13, 22, 1322, false), (13, 23, 1323, false), (13, 24, 1324, false), (13, 25, 1325, false), (13, 26, 1326, false), (13, 27, 1327, false), (13, 28, 1328, false), (13, 29, 1329, false), (13, 32, 1332, false), (13, 34, 1334, false), (13, 35, 1335, false), (13, 36, 1336, false), (13, 37, 1337, false), (13, 38, 1338, false), (13, 39, 1339, false), (13, 40, 1340, false), (13, 42, 1342, false), (13, 43, 1343, false), (13, 46, 1346, false), (13, 47, 1347, false), (13, 48, 1348, false), (13, 49, 1349, false), (101, 999, 7, true), (104, 999, 154, false), (303, 999, 353, false), (304, 999, 354, false), (401, 999, 6, true), (806, 999, 856, false), (1103, 999, 1153, false)]
def h_len (x : tO) : Nat := match x with
  | .inl (_, n) => n
  | .inr (_, n) => n
def h_rs (t k : Nat) : Option (Nat × Bool) := match h_rl.find? (fun q => q.1 == t && (q.2.1 == 999 || q.2.1 == k)) with
  | some q => some q.2.2
  | none => none

