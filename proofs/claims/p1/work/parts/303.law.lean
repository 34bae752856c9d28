/-! THE LAW: a script of six ints at most -/
def zt22_0 (h : Nat) : ZB := [(0, [zf_new 11 20, zf_dup, zf_ins h 11 23 0, zf_ast 1, zf_new 21 51, zf_dup, zf_ins h 21 30 0, zf_ast 2, zf_ic 0, zf_ist 3], 18),
  (18, [zf_ild 3, zf_ald 0, zf_len, zf_ic 6, zf_sub, zf_ic2 .gt 1660, zf_ald 0, zf_ild 3, zf_aldI 100, zf_ic 63, zf_bit zand, zf_sw 1654 0 48 [244, 307, 330, 353, 376, 410, 433, 446, 479, 502, 525, 608, 671, 714, 767, 790, 833, 857, 890, 943, 956, 969, 1002, 1025, 1068, 1081, 1094, 1127, 1150, 1163, 1176, 1199, 1223, 1246, 1269, 1282, 1305, 1318, 1341, 1354, 1387, 1410, 1423, 1466, 1489, 1512, 1545, 1588, 1641]], 244),
  (244, [zf_ald 1, zf_ald 0, zf_ild 3, zf_ic 1, zf_add, zf_aldI 100, zf_ald 0, zf_ild 3, zf_ic 2, zf_add, zf_aldI 100, zf_ald 0, zf_ild 3, zf_ic 3, zf_add, zf_aldI 100, zf_ald 0, zf_ild 3, zf_ic 4, zf_add, zf_aldI 100, zf_ald 0, zf_ild 3, zf_ic 5, zf_add, zf_aldI 100, zf_inv h 11 20 5, zf_ald 2, zf_ald 0, zf_ild 3, zf_ic 1, zf_add, zf_aldI 100, zf_ald 0, zf_ild 3, zf_ic 2, zf_add, zf_aldI 100, zf_ald 0, zf_ild 3, zf_ic 3, zf_add, zf_aldI 100, zf_ald 0, zf_ild 3, zf_ic 4, zf_add, zf_aldI 100, zf_ald 0, zf_ild 3, zf_ic 5, zf_add, zf_aldI 100, zf_inv h 21 21 5, zf_ic2 .eq 1654, zf_ic 0, zf_retz], 307),
  (307, [zf_ald 1, zf_ald 0, zf_ild 3, zf_ic 1, zf_add, zf_aldI 100, zf_inv h 11 15 1, zf_ald 2, zf_ald 0, zf_ild 3, zf_ic 1, zf_add, zf_aldI 100, zf_inv h 21 16 1, zf_ic2 .eq 1654, zf_ic 0, zf_retz], 330),
  (330, [zf_ald 1, zf_ald 0, zf_ild 3, zf_ic 1, zf_add, zf_aldI 100, zf_inv h 11 47 1, zf_ald 2, zf_ald 0, zf_ild 3, zf_ic 1, zf_add, zf_aldI 100, zf_inv h 21 70 1, zf_ic2 .eq 1654, zf_ic 0, zf_retz], 353),
  (353, [zf_ald 1, zf_ald 0, zf_ild 3, zf_ic 1, zf_add, zf_aldI 100, zf_inv h 11 26 1, zf_ald 2, zf_ald 0, zf_ild 3, zf_ic 1, zf_add, zf_aldI 100, zf_inv h 21 33 1, zf_ic2 .eq 1654, zf_ic 0, zf_retz], 376),
  (376, [zf_ald 1, zf_ald 0, zf_ild 3, zf_ic 1, zf_add, zf_aldI 100, zf_ald 0, zf_ild 3, zf_ic 2, zf_add, zf_aldI 100, zf_inv h 11 31 2, zf_ald 2, zf_ald 0, zf_ild 3, zf_ic 1, zf_add, zf_aldI 100, zf_ald 0, zf_ild 3, zf_ic 2, zf_add, zf_aldI 100, zf_inv h 21 41 2, zf_lcmp, zf_if .eq 1654, zf_ic 0, zf_retz], 410),
  (410, [zf_ald 1, zf_ald 0, zf_ild 3, zf_ic 1, zf_add, zf_aldI 100, zf_inv h 11 58 1, zf_ald 2, zf_ald 0, zf_ild 3, zf_ic 1, zf_add, zf_aldI 100, zf_inv h 21 80 1, zf_ic2 .eq 1654, zf_ic 0, zf_retz], 433),
  (433, [zf_ald 1, zf_inv h 11 30 0, zf_ald 2, zf_inv h 21 39 0, zf_ic2 .eq 1654, zf_ic 0, zf_retz], 446),
  (446, [zf_ald 1, zf_ald 0, zf_ild 3, zf_ic 1, zf_add, zf_aldI 100, zf_ald 0, zf_ild 3, zf_ic 2, zf_add, zf_aldI 100, zf_inv h 11 29 2, zf_ald 2, zf_ald 0, zf_ild 3, zf_ic 1, zf_add, zf_aldI 100, zf_ald 0, zf_ild 3, zf_ic 2, zf_add, zf_aldI 100, zf_inv h 21 38 2, zf_ic2 .eq 1654, zf_ic 0, zf_retz], 479),
  (479, [zf_ald 1, zf_ald 0, zf_ild 3, zf_ic 1, zf_add, zf_aldI 100, zf_inv h 11 28 1, zf_ald 2, zf_ald 0, zf_ild 3, zf_ic 1, zf_add, zf_aldI 100, zf_inv h 21 37 1, zf_ic2 .eq 1654, zf_ic 0, zf_retz], 502),
  (502, [zf_ald 1, zf_ald 0, zf_ild 3, zf_ic 1, zf_add, zf_aldI 100, zf_inv h 11 37 1, zf_ald 2, zf_ald 0, zf_ild 3, zf_ic 1, zf_add, zf_aldI 100, zf_inv h 21 50 1, zf_ic2 .eq 1654, zf_ic 0, zf_retz], 525),
  (525, [zf_ald 1, zf_ald 0, zf_ild 3, zf_ic 1, zf_add, zf_aldI 100, zf_ald 0, zf_ild 3, zf_ic 2, zf_add, zf_aldI 100, zf_ald 0, zf_ild 3, zf_ic 3, zf_add, zf_aldI 100, zf_ald 0, zf_ild 3, zf_ic 4, zf_add, zf_aldI 100, zf_i2l, zf_ic 32, zf_lsh zlshl, zf_ald 0, zf_ild 3, zf_ic 5, zf_add, zf_aldI 100, zf_i2l, zf_lc 4294967295, zf_lbit zland, zf_lbit zlor, zf_inv h 11 5 4, zf_ald 2, zf_ald 0, zf_ild 3, zf_ic 1, zf_add, zf_aldI 100, zf_ald 0, zf_ild 3, zf_ic 2, zf_add, zf_aldI 100, zf_ald 0, zf_ild 3, zf_ic 3, zf_add, zf_aldI 100, zf_ald 0, zf_ild 3, zf_ic 4, zf_add, zf_aldI 100, zf_i2l, zf_ic 32, zf_lsh zlshl, zf_ald 0, zf_ild 3, zf_ic 5, zf_add, zf_aldI 100, zf_i2l, zf_lc 4294967295, zf_lbit zland, zf_lbit zlor, zf_inv h 21 4 4, zf_ic2 .eq 1654, zf_ic 0, zf_retz], 608),
  (608, [zf_ald 1, zf_ald 0, zf_ild 3, zf_ic 1, zf_add, zf_aldI 100, zf_ald 0, zf_ild 3, zf_ic 2, zf_add, zf_aldI 100, zf_ald 0, zf_ild 3, zf_ic 3, zf_add, zf_aldI 100, zf_ald 0, zf_ild 3, zf_ic 4, zf_add, zf_aldI 100, zf_ald 0, zf_ild 3, zf_ic 5, zf_add, zf_aldI 100, zf_inv h 11 35 5, zf_ald 2, zf_ald 0, zf_ild 3, zf_ic 1, zf_add, zf_aldI 100, zf_ald 0, zf_ild 3, zf_ic 2, zf_add, zf_aldI 100, zf_ald 0, zf_ild 3, zf_ic 3, zf_add, zf_aldI 100, zf_ald 0, zf_ild 3, zf_ic 4, zf_add, zf_aldI 100, zf_ald 0, zf_ild 3, zf_ic 5, zf_add, zf_aldI 100, zf_inv h 21 46 5, zf_ic2 .eq 1654, zf_ic 0, zf_retz], 671),
  (671, [zf_ald 1, zf_ald 0, zf_ild 3, zf_ic 1, zf_add, zf_aldI 100, zf_ald 0, zf_ild 3, zf_ic 2, zf_add, zf_aldI 100, zf_ald 0, zf_ild 3, zf_ic 3, zf_add, zf_aldI 100, zf_inv h 11 3 3, zf_ald 2, zf_ald 0, zf_ild 3, zf_ic 1, zf_add, zf_aldI 100, zf_ald 0, zf_ild 3, zf_ic 2, zf_add, zf_aldI 100, zf_ald 0, zf_ild 3, zf_ic 3, zf_add, zf_aldI 100, zf_inv h 21 2 3, zf_ic2 .eq 1654, zf_ic 0, zf_retz], 714),
  (714, [zf_ald 1, zf_ald 0, zf_ild 3, zf_ic 1, zf_add, zf_aldI 100, zf_ald 0, zf_ild 3, zf_ic 2, zf_add, zf_aldI 100, zf_ald 0, zf_ild 3, zf_ic 3, zf_add, zf_aldI 100, zf_ald 0, zf_ild 3, zf_ic 4, zf_add, zf_aldI 100, zf_inv h 11 8 4, zf_ald 2, zf_ald 0, zf_ild 3, zf_ic 1, zf_add, zf_aldI 100, zf_ald 0, zf_ild 3, zf_ic 2, zf_add, zf_aldI 100, zf_ald 0, zf_ild 3, zf_ic 3, zf_add, zf_aldI 100, zf_ald 0, zf_ild 3, zf_ic 4, zf_add, zf_aldI 100, zf_inv h 21 7 4, zf_ic2 .eq 1654, zf_ic 0, zf_retz], 767),
  (767, [zf_ald 1, zf_ald 0, zf_ild 3, zf_ic 1, zf_add, zf_aldI 100, zf_inv h 11 41 1, zf_ald 2, zf_ald 0, zf_ild 3, zf_ic 1, zf_add, zf_aldI 100, zf_inv h 21 55 1, zf_ic2 .eq 1654, zf_ic 0, zf_retz], 790),
  (790, [zf_ald 1, zf_ald 0, zf_ild 3, zf_ic 1, zf_add, zf_aldI 100, zf_ald 0, zf_ild 3, zf_ic 2, zf_add, zf_aldI 100, zf_ald 0, zf_ild 3, zf_ic 3, zf_add, zf_aldI 100, zf_inv h 11 55 3, zf_ald 2, zf_ald 0, zf_ild 3, zf_ic 1, zf_add, zf_aldI 100, zf_ald 0, zf_ild 3, zf_ic 2, zf_add, zf_aldI 100, zf_ald 0, zf_ild 3, zf_ic 3, zf_add, zf_aldI 100, zf_inv h 21 77 3, zf_ic2 .eq 1654, zf_ic 0, zf_retz], 833),
  (833, [zf_ald 1, zf_ald 0, zf_ild 3, zf_ic 1, zf_add, zf_aldI 100, zf_inv h 11 9 1, zf_ald 2, zf_ald 0, zf_ild 3, zf_ic 1, zf_add, zf_aldI 100, zf_inv h 21 8 1, zf_lcmp, zf_if .eq 1654, zf_ic 0, zf_retz], 857),
  (857, [zf_ald 1, zf_ald 0, zf_ild 3, zf_ic 1, zf_add, zf_aldI 100, zf_ald 0, zf_ild 3, zf_ic 2, zf_add, zf_aldI 100, zf_inv h 11 4 2, zf_ald 2, zf_ald 0, zf_ild 3, zf_ic 1, zf_add, zf_aldI 100, zf_ald 0, zf_ild 3, zf_ic 2, zf_add, zf_aldI 100, zf_inv h 21 3 2, zf_ic2 .eq 1654, zf_ic 0, zf_retz], 890),
  (890, [zf_ald 1, zf_ald 0, zf_ild 3, zf_ic 1, zf_add, zf_aldI 100, zf_ald 0, zf_ild 3, zf_ic 2, zf_add, zf_aldI 100, zf_ald 0, zf_ild 3, zf_ic 3, zf_add, zf_aldI 100, zf_ald 0, zf_ild 3, zf_ic 4, zf_add, zf_aldI 100, zf_inv h 11 42 4, zf_ald 2, zf_ald 0, zf_ild 3, zf_ic 1, zf_add, zf_aldI 100, zf_ald 0, zf_ild 3, zf_ic 2, zf_add, zf_aldI 100, zf_ald 0, zf_ild 3, zf_ic 3, zf_add, zf_aldI 100, zf_ald 0, zf_ild 3, zf_ic 4, zf_add, zf_aldI 100, zf_inv h 21 58 4, zf_ic2 .eq 1654, zf_ic 0, zf_retz], 943),
  (943, [zf_ald 1, zf_inv h 11 11 0, zf_ald 2, zf_inv h 21 10 0, zf_ic2 .eq 1654, zf_ic 0, zf_retz], 956),
  (956, [zf_ald 1, zf_inv h 11 54 0, zf_ald 2, zf_inv h 21 76 0, zf_ic2 .eq 1654, zf_ic 0, zf_retz], 969),
  (969, [zf_ald 1, zf_ald 0, zf_ild 3, zf_ic 1, zf_add, zf_aldI 100, zf_ald 0, zf_ild 3, zf_ic 2, zf_add, zf_aldI 100, zf_inv h 11 53 2, zf_ald 2, zf_ald 0, zf_ild 3, zf_ic 1, zf_add, zf_aldI 100, zf_ald 0, zf_ild 3, zf_ic 2, zf_add, zf_aldI 100, zf_inv h 21 75 2, zf_ic2 .eq 1654, zf_ic 0, zf_retz], 1002),
  (1002, [zf_ald 1, zf_ald 0, zf_ild 3, zf_ic 1, zf_add, zf_aldI 100, zf_inv h 11 7 1, zf_ald 2, zf_ald 0, zf_ild 3, zf_ic 1, zf_add, zf_aldI 100, zf_inv h 21 6 1, zf_ic2 .eq 1654, zf_ic 0, zf_retz], 1025),
  (1025, [zf_ald 1, zf_ald 0, zf_ild 3, zf_ic 1, zf_add, zf_aldI 100, zf_ald 0, zf_ild 3, zf_ic 2, zf_add, zf_aldI 100, zf_ald 0, zf_ild 3, zf_ic 3, zf_add, zf_aldI 100, zf_inv h 11 0 3, zf_ald 2, zf_ald 0, zf_ild 3, zf_ic 1, zf_add, zf_aldI 100, zf_ald 0, zf_ild 3, zf_ic 2, zf_add, zf_aldI 100, zf_ald 0, zf_ild 3, zf_ic 3, zf_add, zf_aldI 100, zf_inv h 21 0 3, zf_ic2 .eq 1654, zf_ic 0, zf_retz], 1068),
  (1068, [zf_ald 1, zf_inv h 11 48 0, zf_ald 2, zf_inv h 21 71 0, zf_ic2 .eq 1654, zf_ic 0, zf_retz], 1081),
  (1081, [zf_ald 1, zf_inv h 11 17 0, zf_ald 2, zf_inv h 21 18 0, zf_ic2 .eq 1654, zf_ic 0, zf_retz], 1094),
  (1094, [zf_ald 1, zf_ald 0, zf_ild 3, zf_ic 1, zf_add, zf_aldI 100, zf_ald 0, zf_ild 3, zf_ic 2, zf_add, zf_aldI 100, zf_inv h 11 13 2, zf_ald 2, zf_ald 0, zf_ild 3, zf_ic 1, zf_add, zf_aldI 100, zf_ald 0, zf_ild 3, zf_ic 2, zf_add, zf_aldI 100, zf_inv h 21 14 2, zf_ic2 .eq 1654, zf_ic 0, zf_retz], 1127),
  (1127, [zf_ald 1, zf_ald 0, zf_ild 3, zf_ic 1, zf_add, zf_aldI 100, zf_inv h 11 39 1, zf_ald 2, zf_ald 0, zf_ild 3, zf_ic 1, zf_add, zf_aldI 100, zf_inv h 21 53 1, zf_ic2 .eq 1654, zf_ic 0, zf_retz], 1150),
  (1150, [zf_ald 1, zf_inv h 11 33 0, zf_ald 2, zf_inv h 21 44 0, zf_ic2 .eq 1654, zf_ic 0, zf_retz], 1163),
  (1163, [zf_ald 1, zf_inv h 11 18 0, zf_ald 2, zf_inv h 21 20 0, zf_ic2 .eq 1654, zf_ic 0, zf_retz], 1176),
  (1176, [zf_ald 1, zf_ald 0, zf_ild 3, zf_ic 1, zf_add, zf_aldI 100, zf_inv h 11 43 1, zf_ald 2, zf_ald 0, zf_ild 3, zf_ic 1, zf_add, zf_aldI 100, zf_inv h 21 59 1, zf_ic2 .eq 1654, zf_ic 0, zf_retz], 1199),
  (1199, [zf_ald 1, zf_ald 0, zf_ild 3, zf_ic 1, zf_add, zf_aldI 100, zf_inv h 11 32 1, zf_ald 2, zf_ald 0, zf_ild 3, zf_ic 1, zf_add, zf_aldI 100, zf_inv h 21 42 1, zf_lcmp, zf_if .eq 1654, zf_ic 0, zf_retz], 1223),
  (1223, [zf_ald 1, zf_ald 0, zf_ild 3, zf_ic 1, zf_add, zf_aldI 100, zf_inv h 11 16 1, zf_ald 2, zf_ald 0, zf_ild 3, zf_ic 1, zf_add, zf_aldI 100, zf_inv h 21 17 1, zf_ic2 .eq 1654, zf_ic 0, zf_retz], 1246),
  (1246, [zf_ald 1, zf_ald 0, zf_ild 3, zf_ic 1, zf_add, zf_aldI 100, zf_inv h 11 12 1, zf_ald 2, zf_ald 0, zf_ild 3, zf_ic 1, zf_add, zf_aldI 100, zf_inv h 21 11 1, zf_ic2 .eq 1654, zf_ic 0, zf_retz], 1269),
  (1269, [zf_ald 1, zf_inv h 11 44 0, zf_ald 2, zf_inv h 21 62 0, zf_ic2 .eq 1654, zf_ic 0, zf_retz], 1282),
  (1282, [zf_ald 1, zf_ald 0, zf_ild 3, zf_ic 1, zf_add, zf_aldI 100, zf_inv h 11 14 1, zf_ald 2, zf_ald 0, zf_ild 3, zf_ic 1, zf_add, zf_aldI 100, zf_inv h 21 15 1, zf_ic2 .eq 1654, zf_ic 0, zf_retz], 1305),
  (1305, [zf_ald 1, zf_inv h 11 50 0, zf_ald 2, zf_inv h 21 72 0, zf_ic2 .eq 1654, zf_ic 0, zf_retz], 1318),
  (1318, [zf_ald 1, zf_ald 0, zf_ild 3, zf_ic 1, zf_add, zf_aldI 100, zf_inv h 11 10 1, zf_ald 2, zf_ald 0, zf_ild 3, zf_ic 1, zf_add, zf_aldI 100, zf_inv h 21 9 1, zf_ic2 .eq 1654, zf_ic 0, zf_retz], 1341),
  (1341, [zf_ald 1, zf_inv h 11 38 0, zf_ald 2, zf_inv h 21 51 0, zf_ic2 .eq 1654, zf_ic 0, zf_retz], 1354),
  (1354, [zf_ald 1, zf_ald 0, zf_ild 3, zf_ic 1, zf_add, zf_aldI 100, zf_ald 0, zf_ild 3, zf_ic 2, zf_add, zf_aldI 100, zf_inv h 11 45 2, zf_ald 2, zf_ald 0, zf_ild 3, zf_ic 1, zf_add, zf_aldI 100, zf_ald 0, zf_ild 3, zf_ic 2, zf_add, zf_aldI 100, zf_inv h 21 63 2, zf_ic2 .eq 1654, zf_ic 0, zf_retz], 1387),
  (1387, [zf_ald 1, zf_ald 0, zf_ild 3, zf_ic 1, zf_add, zf_aldI 100, zf_inv h 11 27 1, zf_ald 2, zf_ald 0, zf_ild 3, zf_ic 1, zf_add, zf_aldI 100, zf_inv h 21 36 1, zf_ic2 .eq 1654, zf_ic 0, zf_retz], 1410),
  (1410, [zf_ald 1, zf_inv h 11 36 0, zf_ald 2, zf_inv h 21 49 0, zf_ic2 .eq 1654, zf_ic 0, zf_retz], 1423),
  (1423, [zf_ald 1, zf_ald 0, zf_ild 3, zf_ic 1, zf_add, zf_aldI 100, zf_ald 0, zf_ild 3, zf_ic 2, zf_add, zf_aldI 100, zf_ald 0, zf_ild 3, zf_ic 3, zf_add, zf_aldI 100, zf_inv h 11 2 3, zf_ald 2, zf_ald 0, zf_ild 3, zf_ic 1, zf_add, zf_aldI 100, zf_ald 0, zf_ild 3, zf_ic 2, zf_add, zf_aldI 100, zf_ald 0, zf_ild 3, zf_ic 3, zf_add, zf_aldI 100, zf_inv h 21 1 3, zf_ic2 .eq 1654, zf_ic 0, zf_retz], 1466),
  (1466, [zf_ald 1, zf_ald 0, zf_ild 3, zf_ic 1, zf_add, zf_aldI 100, zf_inv h 11 56 1, zf_ald 2, zf_ald 0, zf_ild 3, zf_ic 1, zf_add, zf_aldI 100, zf_inv h 21 79 1, zf_ic2 .eq 1654, zf_ic 0, zf_retz], 1489),
  (1489, [zf_ald 1, zf_ald 0, zf_ild 3, zf_ic 1, zf_add, zf_aldI 100, zf_inv h 11 46 1, zf_ald 2, zf_ald 0, zf_ild 3, zf_ic 1, zf_add, zf_aldI 100, zf_inv h 21 68 1, zf_ic2 .eq 1654, zf_ic 0, zf_retz], 1512),
  (1512, [zf_ald 1, zf_ald 0, zf_ild 3, zf_ic 1, zf_add, zf_aldI 100, zf_ald 0, zf_ild 3, zf_ic 2, zf_add, zf_aldI 100, zf_inv h 11 40 2, zf_ald 2, zf_ald 0, zf_ild 3, zf_ic 1, zf_add, zf_aldI 100, zf_ald 0, zf_ild 3, zf_ic 2, zf_add, zf_aldI 100, zf_inv h 21 54 2, zf_ic2 .eq 1654, zf_ic 0, zf_retz], 1545),
  (1545, [zf_ald 1, zf_ald 0, zf_ild 3, zf_ic 1, zf_add, zf_aldI 100, zf_ald 0, zf_ild 3, zf_ic 2, zf_add, zf_aldI 100, zf_ald 0, zf_ild 3, zf_ic 3, zf_add, zf_aldI 100, zf_inv h 11 34 3, zf_ald 2, zf_ald 0, zf_ild 3, zf_ic 1, zf_add, zf_aldI 100, zf_ald 0, zf_ild 3, zf_ic 2, zf_add, zf_aldI 100, zf_ald 0, zf_ild 3, zf_ic 3, zf_add, zf_aldI 100, zf_inv h 21 45 3, zf_ic2 .eq 1654, zf_ic 0, zf_retz], 1588),
  (1588, [zf_ald 1, zf_ald 0, zf_ild 3, zf_ic 1, zf_add, zf_aldI 100, zf_ald 0, zf_ild 3, zf_ic 2, zf_add, zf_aldI 100, zf_ald 0, zf_ild 3, zf_ic 3, zf_add, zf_aldI 100, zf_ald 0, zf_ild 3, zf_ic 4, zf_add, zf_aldI 100, zf_inv h 11 6 4, zf_ald 2, zf_ald 0, zf_ild 3, zf_ic 1, zf_add, zf_aldI 100, zf_ald 0, zf_ild 3, zf_ic 2, zf_add, zf_aldI 100, zf_ald 0, zf_ild 3, zf_ic 3, zf_add, zf_aldI 100, zf_ald 0, zf_ild 3, zf_ic 4, zf_add, zf_aldI 100, zf_inv h 21 5 4, zf_ic2 .eq 1654, zf_ic 0, zf_retz], 1641),
  (1641, [zf_ald 1, zf_inv h 11 52 0, zf_ald 2, zf_inv h 21 74 0, zf_ic2 .eq 1654, zf_ic 0, zf_retz], 1654),
  (1654, [zf_inc 3 6, zf_go 18], 1660),
  (1660, [zf_ic 1, zf_retz], 1662)]
theorem zT22_0 (h : Nat) : zTab h 22 0 4 (zt22_0 h) := zTab.mk (ret := (some .boolean)) (bl := xk22_0) (by decide +kernel) (by decide +kernel) rfl rfl
def pl_Q (S : ZS) : ZQ := fun r _ _ _ S' => r = some (zvi 1) ∧ S' = S
theorem pl_short {I L : ZI} {R : ZR} {S : ZS} {n : Nat} (hA : zFr 40 165 I L R S) (h0 : S.1 0 = (100, n)) (hn : n < 6) : zwp (zt22_0 21) [] (fun _ _ _ _ _ _ _ => False) (pl_Q S) 100000 18 [some (zvr 0), some (zvr 40), some (zvr 165), some (zvi 0)] [] I L R S := by
  refine And.intro (zln0 hA h0) (zrdN (v := n) (zlv0 h0) ?_)
  refine And.intro ⟨zRb rfl, by constructor <;> omega⟩ (And.intro (fun _ => ?_) (fun h => absurd h (by omega)))
  refine And.intro (Or.inr rfl) ?_
  exact ⟨rfl, rfl⟩
set_option maxHeartbeats 4000000 in
theorem pl_six {I L : ZI} {R : ZR} {S : ZS} (hA : zFr 40 165 I L R S) (hB : zFr 165 302 I L R S) (h0 : S.1 0 = (100, 6)) : zwp (zt22_0 21) [] (fun _ _ _ _ _ _ _ => False) (pl_Q S) 100000 18 [some (zvr 0), some (zvr 40), some (zvr 165), some (zvi 0)] [] I L R S := by
  refine And.intro (zln0 hA h0) (zrdN (v := 6) (zlv0 h0) ?_)
  refine And.intro ⟨zRb rfl, zRb rfl⟩ (zbf rfl ?_)
  refine And.intro (zp0 hA h0 rfl) (fun v0 e0 q0 => ?_)
  refine And.intro zr_and (And.intro (And.intro (fun _ => ?_) (And.intro (fun _ => ?_) (And.intro (fun _ => ?_) (And.intro (fun _ => ?_) (And.intro (fun _ => ?_) (And.intro (fun _ => ?_) (And.intro (fun _ => ?_) (And.intro (fun _ => ?_) (And.intro (fun _ => ?_) (And.intro (fun _ => ?_) (And.intro (fun _ => ?_) (And.intro (fun _ => ?_) (And.intro (fun _ => ?_) (And.intro (fun _ => ?_) (And.intro (fun _ => ?_) (And.intro (fun _ => ?_) (And.intro (fun _ => ?_) (And.intro (fun _ => ?_) (And.intro (fun _ => ?_) (And.intro (fun _ => ?_) (And.intro (fun _ => ?_) (And.intro (fun _ => ?_) (And.intro (fun _ => ?_) (And.intro (fun _ => ?_) (And.intro (fun _ => ?_) (And.intro (fun _ => ?_) (And.intro (fun _ => ?_) (And.intro (fun _ => ?_) (And.intro (fun _ => ?_) (And.intro (fun _ => ?_) (And.intro (fun _ => ?_) (And.intro (fun _ => ?_) (And.intro (fun _ => ?_) (And.intro (fun _ => ?_) (And.intro (fun _ => ?_) (And.intro (fun _ => ?_) (And.intro (fun _ => ?_) (And.intro (fun _ => ?_) (And.intro (fun _ => ?_) (And.intro (fun _ => ?_) (And.intro (fun _ => ?_) (And.intro (fun _ => ?_) (And.intro (fun _ => ?_) (And.intro (fun _ => ?_) (And.intro (fun _ => ?_) (And.intro (fun _ => ?_) (And.intro (fun _ => ?_) (And.intro (fun _ => ?_) (And.intro (fun _ => ?_) True.intro))))))))))))))))))))))))))))))))))))))))))))))))) (fun _ => ?_))
  · refine And.intro (zp0 hA h0 rfl) (fun v1 e1 q1 => ?_)
    refine And.intro (zp0 hA h0 rfl) (fun v2 e2 q2 => ?_)
    refine And.intro (zp0 hA h0 rfl) (fun v3 e3 q3 => ?_)
    refine And.intro (zp0 hA h0 rfl) (fun v4 e4 q4 => ?_)
    refine And.intro (zp0 hA h0 rfl) (fun v5 e5 q5 => ?_)
    refine And.intro (zak hA xs_40 rfl) (Exists.intro _ (And.intro (zinl_ok (zT11_20 20)) (pq_feed_11 hA v1 q1 v2 q2 v3 q3 v4 q4 v5 q5 (fun I1 L1 R1 d1 => ?_))))
    have hB1 := zFr_o hB d1 rfl
    refine And.intro (zp0 hA h0 rfl) (zrd (v := v1) ((d1.1 0 _ rfl).trans e1.symm) ?_)
    refine And.intro (zp0 hA h0 rfl) (zrd (v := v2) ((d1.1 0 _ rfl).trans e2.symm) ?_)
    refine And.intro (zp0 hA h0 rfl) (zrd (v := v3) ((d1.1 0 _ rfl).trans e3.symm) ?_)
    refine And.intro (zp0 hA h0 rfl) (zrd (v := v4) ((d1.1 0 _ rfl).trans e4.symm) ?_)
    refine And.intro (zp0 hA h0 rfl) (zrd (v := v5) ((d1.1 0 _ rfl).trans e5.symm) ?_)
    refine And.intro (zak hA xs_165 rfl) (Exists.intro _ (And.intro (zinl_ok (zT21_21 20)) (pq_feed_21 hB1 v1 q1 v2 q2 v3 q3 v4 q4 v5 q5 (fun I2 L2 R2 d2 => ?_))))
    refine And.intro ⟨zRb rfl, zRb rfl⟩ (zbt rfl ?_)
    refine And.intro (zln0 hA h0) (zrdN (v := 6) (zlv0 h0) ?_)
    refine And.intro ⟨zRb rfl, zRb rfl⟩ (zbt rfl ?_)
    refine And.intro (Or.inr rfl) ?_
    exact ⟨rfl, rfl⟩
  · refine And.intro (zp0 hA h0 rfl) (fun v1 e1 q1 => ?_)
    refine And.intro (zak hA xs_40 rfl) (Exists.intro _ (And.intro (zinl_ok (zT11_15 20)) (pq_end_11 hA v1 q1 (fun u hu I1 L1 R1 d1 => ?_))))
    have hB1 := zFr_o hB d1 rfl
    refine And.intro (zp0 hA h0 rfl) (zrd (v := v1) ((d1.1 0 _ rfl).trans e1.symm) ?_)
    refine And.intro (zak hA xs_165 rfl) (Exists.intro _ (And.intro (zinl_ok (zT21_16 20)) (pq_end_21 hB1 v1 q1 (fun w hw I2 L2 R2 d2 => ?_))))
    refine And.intro ⟨by constructor <;> omega, by constructor <;> omega⟩ (And.intro (fun _ => ?_) (fun h => absurd h (by omega)))
    refine And.intro (zln0 hA h0) (zrdN (v := 6) (zlv0 h0) ?_)
    refine And.intro ⟨zRb rfl, zRb rfl⟩ (zbt rfl ?_)
    refine And.intro (Or.inr rfl) ?_
    exact ⟨rfl, rfl⟩
  · refine And.intro (zp0 hA h0 rfl) (fun v1 e1 q1 => ?_)
    refine And.intro (zak hA xs_40 rfl) (Exists.intro _ (And.intro (zinl_ok (zT11_47 20)) (pq_sheets_11 hA v1 q1 (fun u hu I1 L1 R1 d1 => ?_))))
    have hB1 := zFr_o hB d1 rfl
    refine And.intro (zp0 hA h0 rfl) (zrd (v := v1) ((d1.1 0 _ rfl).trans e1.symm) ?_)
    refine And.intro (zak hA xs_165 rfl) (Exists.intro _ (And.intro (zinl_ok (zT21_70 20)) (pq_sheets_21 hB1 v1 q1 (fun w hw I2 L2 R2 d2 => ?_))))
    refine And.intro ⟨by constructor <;> omega, by constructor <;> omega⟩ (And.intro (fun _ => ?_) (fun h => absurd h (by omega)))
    refine And.intro (zln0 hA h0) (zrdN (v := 6) (zlv0 h0) ?_)
    refine And.intro ⟨zRb rfl, zRb rfl⟩ (zbt rfl ?_)
    refine And.intro (Or.inr rfl) ?_
    exact ⟨rfl, rfl⟩
  · refine And.intro (zp0 hA h0 rfl) (fun v1 e1 q1 => ?_)
    refine And.intro (zak hA xs_40 rfl) (Exists.intro _ (And.intro (zinl_ok (zT11_26 20)) (pq_kind_11 hA v1 q1 (fun I1 L1 R1 d1 => ?_))))
    have hB1 := zFr_o hB d1 rfl
    refine And.intro (zp0 hA h0 rfl) (zrd (v := v1) ((d1.1 0 _ rfl).trans e1.symm) ?_)
    refine And.intro (zak hA xs_165 rfl) (Exists.intro _ (And.intro (zinl_ok (zT21_33 20)) (pq_kind_21 hB1 v1 q1 (fun I2 L2 R2 d2 => ?_))))
    refine And.intro ⟨zRb rfl, zRb rfl⟩ (zbt rfl ?_)
    refine And.intro (zln0 hA h0) (zrdN (v := 6) (zlv0 h0) ?_)
    refine And.intro ⟨zRb rfl, zRb rfl⟩ (zbt rfl ?_)
    refine And.intro (Or.inr rfl) ?_
    exact ⟨rfl, rfl⟩
  · refine And.intro (zp0 hA h0 rfl) (fun v1 e1 q1 => ?_)
    refine And.intro (zp0 hA h0 rfl) (fun v2 e2 q2 => ?_)
    refine And.intro (zak hA xs_40 rfl) (Exists.intro _ (And.intro (zinl_ok (zT11_31 20)) (pq_number_11 hA v1 q1 v2 q2 (fun I1 L1 R1 d1 => ?_))))
    have hB1 := zFr_o hB d1 rfl
    refine And.intro (zp0 hA h0 rfl) (zrd (v := v1) ((d1.1 0 _ rfl).trans e1.symm) ?_)
    refine And.intro (zp0 hA h0 rfl) (zrd (v := v2) ((d1.1 0 _ rfl).trans e2.symm) ?_)
    refine And.intro (zak hA xs_165 rfl) (Exists.intro _ (And.intro (zinl_ok (zT21_41 20)) (pq_number_21 hB1 v1 q1 v2 q2 (fun I2 L2 R2 d2 => ?_))))
    refine And.intro ⟨zRL rfl, zRL rfl⟩ (fun z cz => ?_)
    refine And.intro cz.2.2 (And.intro (fun _ => ?_) (fun h => absurd h (by omega)))
    refine And.intro (zln0 hA h0) (zrdN (v := 6) (zlv0 h0) ?_)
    refine And.intro ⟨zRb rfl, zRb rfl⟩ (zbt rfl ?_)
    refine And.intro (Or.inr rfl) ?_
    exact ⟨rfl, rfl⟩
  · refine And.intro (zp0 hA h0 rfl) (fun v1 e1 q1 => ?_)
    refine And.intro (zak hA xs_40 rfl) (Exists.intro _ (And.intro (zinl_ok (zT11_58 20)) (pq_written_11 hA v1 q1 (fun I1 L1 R1 d1 => ?_))))
    have hB1 := zFr_o hB d1 rfl
    refine And.intro (zp0 hA h0 rfl) (zrd (v := v1) ((d1.1 0 _ rfl).trans e1.symm) ?_)
    refine And.intro (zak hA xs_165 rfl) (Exists.intro _ (And.intro (zinl_ok (zT21_80 20)) (pq_written_21 hB1 v1 q1 (fun I2 L2 R2 d2 => ?_))))
    refine And.intro ⟨zRb rfl, zRb rfl⟩ (zbt rfl ?_)
    refine And.intro (zln0 hA h0) (zrdN (v := 6) (zlv0 h0) ?_)
    refine And.intro ⟨zRb rfl, zRb rfl⟩ (zbt rfl ?_)
    refine And.intro (Or.inr rfl) ?_
    exact ⟨rfl, rfl⟩
  · refine And.intro (zak hA xs_40 rfl) (Exists.intro _ (And.intro (zinl_ok (zT11_30 20)) (pq_nets_11 hA  (fun I1 L1 R1 d1 => ?_))))
    have hB1 := zFr_o hB d1 rfl
    refine And.intro (zak hA xs_165 rfl) (Exists.intro _ (And.intro (zinl_ok (zT21_39 20)) (pq_nets_21 hB1  (fun I2 L2 R2 d2 => ?_))))
    refine And.intro ⟨zRb rfl, zRb rfl⟩ (zbt rfl ?_)
    refine And.intro (zln0 hA h0) (zrdN (v := 6) (zlv0 h0) ?_)
    refine And.intro ⟨zRb rfl, zRb rfl⟩ (zbt rfl ?_)
    refine And.intro (Or.inr rfl) ?_
    exact ⟨rfl, rfl⟩
  · refine And.intro (zp0 hA h0 rfl) (fun v1 e1 q1 => ?_)
    refine And.intro (zp0 hA h0 rfl) (fun v2 e2 q2 => ?_)
    refine And.intro (zak hA xs_40 rfl) (Exists.intro _ (And.intro (zinl_ok (zT11_29 20)) (pq_netOf_11 hA v1 q1 v2 q2 (fun I1 L1 R1 d1 => ?_))))
    have hB1 := zFr_o hB d1 rfl
    refine And.intro (zp0 hA h0 rfl) (zrd (v := v1) ((d1.1 0 _ rfl).trans e1.symm) ?_)
    refine And.intro (zp0 hA h0 rfl) (zrd (v := v2) ((d1.1 0 _ rfl).trans e2.symm) ?_)
    refine And.intro (zak hA xs_165 rfl) (Exists.intro _ (And.intro (zinl_ok (zT21_38 20)) (pq_netOf_21 hB1 v1 q1 v2 q2 (fun I2 L2 R2 d2 => ?_))))
    refine And.intro ⟨zRb rfl, zRb rfl⟩ (zbt rfl ?_)
    refine And.intro (zln0 hA h0) (zrdN (v := 6) (zlv0 h0) ?_)
    refine And.intro ⟨zRb rfl, zRb rfl⟩ (zbt rfl ?_)
    refine And.intro (Or.inr rfl) ?_
    exact ⟨rfl, rfl⟩
  · refine And.intro (zp0 hA h0 rfl) (fun v1 e1 q1 => ?_)
    refine And.intro (zak hA xs_40 rfl) (Exists.intro _ (And.intro (zinl_ok (zT11_28 20)) (pq_nameOf_11 hA v1 q1 (fun I1 L1 R1 d1 => ?_))))
    have hB1 := zFr_o hB d1 rfl
    refine And.intro (zp0 hA h0 rfl) (zrd (v := v1) ((d1.1 0 _ rfl).trans e1.symm) ?_)
    refine And.intro (zak hA xs_165 rfl) (Exists.intro _ (And.intro (zinl_ok (zT21_37 20)) (pq_nameOf_21 hB1 v1 q1 (fun I2 L2 R2 d2 => ?_))))
    refine And.intro ⟨zRb rfl, zRb rfl⟩ (zbt rfl ?_)
    refine And.intro (zln0 hA h0) (zrdN (v := 6) (zlv0 h0) ?_)
    refine And.intro ⟨zRb rfl, zRb rfl⟩ (zbt rfl ?_)
    refine And.intro (Or.inr rfl) ?_
    exact ⟨rfl, rfl⟩
  · refine And.intro (zp0 hA h0 rfl) (fun v1 e1 q1 => ?_)
    refine And.intro (zak hA xs_40 rfl) (Exists.intro _ (And.intro (zinl_ok (zT11_37 20)) (pq_remark_11 hA v1 q1 (fun I1 L1 R1 d1 => ?_))))
    have hB1 := zFr_o hB d1 rfl
    refine And.intro (zp0 hA h0 rfl) (zrd (v := v1) ((d1.1 0 _ rfl).trans e1.symm) ?_)
    refine And.intro (zak hA xs_165 rfl) (Exists.intro _ (And.intro (zinl_ok (zT21_50 20)) (pq_remark_21 hB1 v1 q1 (fun I2 L2 R2 d2 => ?_))))
    refine And.intro ⟨zRb rfl, zRb rfl⟩ (zbt rfl ?_)
    refine And.intro (zln0 hA h0) (zrdN (v := 6) (zlv0 h0) ?_)
    refine And.intro ⟨zRb rfl, zRb rfl⟩ (zbt rfl ?_)
    refine And.intro (Or.inr rfl) ?_
    exact ⟨rfl, rfl⟩
  · refine And.intro (zp0 hA h0 rfl) (fun v1 e1 q1 => ?_)
    refine And.intro (zp0 hA h0 rfl) (fun v2 e2 q2 => ?_)
    refine And.intro (zp0 hA h0 rfl) (fun v3 e3 q3 => ?_)
    refine And.intro (zp0 hA h0 rfl) (fun v4 e4 q4 => ?_)
    refine And.intro q4 ?_
    refine And.intro (zp0 hA h0 rfl) (fun v5 e5 q5 => ?_)
    refine And.intro q5 ?_
    refine And.intro (zak hA xs_40 rfl) (Exists.intro _ (And.intro (zinl_ok (zT11_5 20)) (pq_board_11 hA v1 q1 v2 q2 v3 q3 _ zr_lor (fun I1 L1 R1 d1 => ?_))))
    have hB1 := zFr_o hB d1 rfl
    refine And.intro (zp0 hA h0 rfl) (zrd (v := v1) ((d1.1 0 _ rfl).trans e1.symm) ?_)
    refine And.intro (zp0 hA h0 rfl) (zrd (v := v2) ((d1.1 0 _ rfl).trans e2.symm) ?_)
    refine And.intro (zp0 hA h0 rfl) (zrd (v := v3) ((d1.1 0 _ rfl).trans e3.symm) ?_)
    refine And.intro (zp0 hA h0 rfl) (zrd (v := v4) ((d1.1 0 _ rfl).trans e4.symm) ?_)
    refine And.intro q4 ?_
    refine And.intro (zp0 hA h0 rfl) (zrd (v := v5) ((d1.1 0 _ rfl).trans e5.symm) ?_)
    refine And.intro q5 ?_
    refine And.intro (zak hA xs_165 rfl) (Exists.intro _ (And.intro (zinl_ok (zT21_4 20)) (pq_board_21 hB1 v1 q1 v2 q2 v3 q3 _ zr_lor (fun I2 L2 R2 d2 => ?_))))
    refine And.intro ⟨zRb rfl, zRb rfl⟩ (zbt rfl ?_)
    refine And.intro (zln0 hA h0) (zrdN (v := 6) (zlv0 h0) ?_)
    refine And.intro ⟨zRb rfl, zRb rfl⟩ (zbt rfl ?_)
    refine And.intro (Or.inr rfl) ?_
    exact ⟨rfl, rfl⟩
  · refine And.intro (zp0 hA h0 rfl) (fun v1 e1 q1 => ?_)
    refine And.intro (zp0 hA h0 rfl) (fun v2 e2 q2 => ?_)
    refine And.intro (zp0 hA h0 rfl) (fun v3 e3 q3 => ?_)
    refine And.intro (zp0 hA h0 rfl) (fun v4 e4 q4 => ?_)
    refine And.intro (zp0 hA h0 rfl) (fun v5 e5 q5 => ?_)
    refine And.intro (zak hA xs_40 rfl) (Exists.intro _ (And.intro (zinl_ok (zT11_35 20)) (pq_put_11 hA v1 q1 v2 q2 v3 q3 v4 q4 v5 q5 (fun I1 L1 R1 d1 => ?_))))
    have hB1 := zFr_o hB d1 rfl
    refine And.intro (zp0 hA h0 rfl) (zrd (v := v1) ((d1.1 0 _ rfl).trans e1.symm) ?_)
    refine And.intro (zp0 hA h0 rfl) (zrd (v := v2) ((d1.1 0 _ rfl).trans e2.symm) ?_)
    refine And.intro (zp0 hA h0 rfl) (zrd (v := v3) ((d1.1 0 _ rfl).trans e3.symm) ?_)
    refine And.intro (zp0 hA h0 rfl) (zrd (v := v4) ((d1.1 0 _ rfl).trans e4.symm) ?_)
    refine And.intro (zp0 hA h0 rfl) (zrd (v := v5) ((d1.1 0 _ rfl).trans e5.symm) ?_)
    refine And.intro (zak hA xs_165 rfl) (Exists.intro _ (And.intro (zinl_ok (zT21_46 20)) (pq_put_21 hB1 v1 q1 v2 q2 v3 q3 v4 q4 v5 q5 (fun I2 L2 R2 d2 => ?_))))
    refine And.intro ⟨zRb rfl, zRb rfl⟩ (zbt rfl ?_)
    refine And.intro (zln0 hA h0) (zrdN (v := 6) (zlv0 h0) ?_)
    refine And.intro ⟨zRb rfl, zRb rfl⟩ (zbt rfl ?_)
    refine And.intro (Or.inr rfl) ?_
    exact ⟨rfl, rfl⟩
  · refine And.intro (zp0 hA h0 rfl) (fun v1 e1 q1 => ?_)
    refine And.intro (zp0 hA h0 rfl) (fun v2 e2 q2 => ?_)
    refine And.intro (zp0 hA h0 rfl) (fun v3 e3 q3 => ?_)
    refine And.intro (zak hA xs_40 rfl) (Exists.intro _ (And.intro (zinl_ok (zT11_3 20)) (pq_bar_11 hA v1 q1 v2 q2 v3 q3 (fun I1 L1 R1 d1 => ?_))))
    have hB1 := zFr_o hB d1 rfl
    refine And.intro (zp0 hA h0 rfl) (zrd (v := v1) ((d1.1 0 _ rfl).trans e1.symm) ?_)
    refine And.intro (zp0 hA h0 rfl) (zrd (v := v2) ((d1.1 0 _ rfl).trans e2.symm) ?_)
    refine And.intro (zp0 hA h0 rfl) (zrd (v := v3) ((d1.1 0 _ rfl).trans e3.symm) ?_)
    refine And.intro (zak hA xs_165 rfl) (Exists.intro _ (And.intro (zinl_ok (zT21_2 20)) (pq_bar_21 hB1 v1 q1 v2 q2 v3 q3 (fun I2 L2 R2 d2 => ?_))))
    refine And.intro ⟨zRb rfl, zRb rfl⟩ (zbt rfl ?_)
    refine And.intro (zln0 hA h0) (zrdN (v := 6) (zlv0 h0) ?_)
    refine And.intro ⟨zRb rfl, zRb rfl⟩ (zbt rfl ?_)
    refine And.intro (Or.inr rfl) ?_
    exact ⟨rfl, rfl⟩
  · refine And.intro (zp0 hA h0 rfl) (fun v1 e1 q1 => ?_)
    refine And.intro (zp0 hA h0 rfl) (fun v2 e2 q2 => ?_)
    refine And.intro (zp0 hA h0 rfl) (fun v3 e3 q3 => ?_)
    refine And.intro (zp0 hA h0 rfl) (fun v4 e4 q4 => ?_)
    refine And.intro (zak hA xs_40 rfl) (Exists.intro _ (And.intro (zinl_ok (zT11_8 20)) (pq_cost_11 hA v1 q1 v2 q2 v3 q3 v4 q4 (fun I1 L1 R1 d1 => ?_))))
    have hB1 := zFr_o hB d1 rfl
    refine And.intro (zp0 hA h0 rfl) (zrd (v := v1) ((d1.1 0 _ rfl).trans e1.symm) ?_)
    refine And.intro (zp0 hA h0 rfl) (zrd (v := v2) ((d1.1 0 _ rfl).trans e2.symm) ?_)
    refine And.intro (zp0 hA h0 rfl) (zrd (v := v3) ((d1.1 0 _ rfl).trans e3.symm) ?_)
    refine And.intro (zp0 hA h0 rfl) (zrd (v := v4) ((d1.1 0 _ rfl).trans e4.symm) ?_)
    refine And.intro (zak hA xs_165 rfl) (Exists.intro _ (And.intro (zinl_ok (zT21_7 20)) (pq_cost_21 hB1 v1 q1 v2 q2 v3 q3 v4 q4 (fun I2 L2 R2 d2 => ?_))))
    refine And.intro ⟨zRb rfl, zRb rfl⟩ (zbt rfl ?_)
    refine And.intro (zln0 hA h0) (zrdN (v := 6) (zlv0 h0) ?_)
    refine And.intro ⟨zRb rfl, zRb rfl⟩ (zbt rfl ?_)
    refine And.intro (Or.inr rfl) ?_
    exact ⟨rfl, rfl⟩
  · refine And.intro (zp0 hA h0 rfl) (fun v1 e1 q1 => ?_)
    refine And.intro (zak hA xs_40 rfl) (Exists.intro _ (And.intro (zinl_ok (zT11_41 20)) (pq_route_11 hA v1 q1 (fun I1 L1 R1 d1 => ?_))))
    have hB1 := zFr_o hB d1 rfl
    refine And.intro (zp0 hA h0 rfl) (zrd (v := v1) ((d1.1 0 _ rfl).trans e1.symm) ?_)
    refine And.intro (zak hA xs_165 rfl) (Exists.intro _ (And.intro (zinl_ok (zT21_55 20)) (pq_route_21 hB1 v1 q1 (fun I2 L2 R2 d2 => ?_))))
    refine And.intro ⟨zRb rfl, zRb rfl⟩ (zbt rfl ?_)
    refine And.intro (zln0 hA h0) (zrdN (v := 6) (zlv0 h0) ?_)
    refine And.intro ⟨zRb rfl, zRb rfl⟩ (zbt rfl ?_)
    refine And.intro (Or.inr rfl) ?_
    exact ⟨rfl, rfl⟩
  · refine And.intro (zp0 hA h0 rfl) (fun v1 e1 q1 => ?_)
    refine And.intro (zp0 hA h0 rfl) (fun v2 e2 q2 => ?_)
    refine And.intro (zp0 hA h0 rfl) (fun v3 e3 q3 => ?_)
    refine And.intro (zak hA xs_40 rfl) (Exists.intro _ (And.intro (zinl_ok (zT11_55 20)) (pq_way_11 hA v1 q1 v2 q2 v3 q3 (fun I1 L1 R1 d1 => ?_))))
    have hB1 := zFr_o hB d1 rfl
    refine And.intro (zp0 hA h0 rfl) (zrd (v := v1) ((d1.1 0 _ rfl).trans e1.symm) ?_)
    refine And.intro (zp0 hA h0 rfl) (zrd (v := v2) ((d1.1 0 _ rfl).trans e2.symm) ?_)
    refine And.intro (zp0 hA h0 rfl) (zrd (v := v3) ((d1.1 0 _ rfl).trans e3.symm) ?_)
    refine And.intro (zak hA xs_165 rfl) (Exists.intro _ (And.intro (zinl_ok (zT21_77 20)) (pq_way_21 hB1 v1 q1 v2 q2 v3 q3 (fun I2 L2 R2 d2 => ?_))))
    refine And.intro ⟨zRb rfl, zRb rfl⟩ (zbt rfl ?_)
    refine And.intro (zln0 hA h0) (zrdN (v := 6) (zlv0 h0) ?_)
    refine And.intro ⟨zRb rfl, zRb rfl⟩ (zbt rfl ?_)
    refine And.intro (Or.inr rfl) ?_
    exact ⟨rfl, rfl⟩
  · refine And.intro (zp0 hA h0 rfl) (fun v1 e1 q1 => ?_)
    refine And.intro (zak hA xs_40 rfl) (Exists.intro _ (And.intro (zinl_ok (zT11_9 20)) (pq_costOf_11 hA v1 q1 (fun I1 L1 R1 d1 => ?_))))
    have hB1 := zFr_o hB d1 rfl
    refine And.intro (zp0 hA h0 rfl) (zrd (v := v1) ((d1.1 0 _ rfl).trans e1.symm) ?_)
    refine And.intro (zak hA xs_165 rfl) (Exists.intro _ (And.intro (zinl_ok (zT21_8 20)) (pq_costOf_21 hB1 v1 q1 (fun I2 L2 R2 d2 => ?_))))
    refine And.intro ⟨zRL rfl, zRL rfl⟩ (fun z cz => ?_)
    refine And.intro cz.2.2 (And.intro (fun _ => ?_) (fun h => absurd h (by omega)))
    refine And.intro (zln0 hA h0) (zrdN (v := 6) (zlv0 h0) ?_)
    refine And.intro ⟨zRb rfl, zRb rfl⟩ (zbt rfl ?_)
    refine And.intro (Or.inr rfl) ?_
    exact ⟨rfl, rfl⟩
  · refine And.intro (zp0 hA h0 rfl) (fun v1 e1 q1 => ?_)
    refine And.intro (zp0 hA h0 rfl) (fun v2 e2 q2 => ?_)
    refine And.intro (zak hA xs_40 rfl) (Exists.intro _ (And.intro (zinl_ok (zT11_4 20)) (pq_blocking_11 hA v1 q1 v2 q2 (fun I1 L1 R1 d1 => ?_))))
    have hB1 := zFr_o hB d1 rfl
    refine And.intro (zp0 hA h0 rfl) (zrd (v := v1) ((d1.1 0 _ rfl).trans e1.symm) ?_)
    refine And.intro (zp0 hA h0 rfl) (zrd (v := v2) ((d1.1 0 _ rfl).trans e2.symm) ?_)
    refine And.intro (zak hA xs_165 rfl) (Exists.intro _ (And.intro (zinl_ok (zT21_3 20)) (pq_blocking_21 hB1 v1 q1 v2 q2 (fun I2 L2 R2 d2 => ?_))))
    refine And.intro ⟨zRb rfl, zRb rfl⟩ (zbt rfl ?_)
    refine And.intro (zln0 hA h0) (zrdN (v := 6) (zlv0 h0) ?_)
    refine And.intro ⟨zRb rfl, zRb rfl⟩ (zbt rfl ?_)
    refine And.intro (Or.inr rfl) ?_
    exact ⟨rfl, rfl⟩
  · refine And.intro (zp0 hA h0 rfl) (fun v1 e1 q1 => ?_)
    refine And.intro (zp0 hA h0 rfl) (fun v2 e2 q2 => ?_)
    refine And.intro (zp0 hA h0 rfl) (fun v3 e3 q3 => ?_)
    refine And.intro (zp0 hA h0 rfl) (fun v4 e4 q4 => ?_)
    refine And.intro (zak hA xs_40 rfl) (Exists.intro _ (And.intro (zinl_ok (zT11_42 20)) (pq_rule_11 hA v1 q1 v2 q2 v3 q3 v4 q4 (fun u hu I1 L1 R1 d1 => ?_))))
    have hB1 := zFr_o hB d1 rfl
    refine And.intro (zp0 hA h0 rfl) (zrd (v := v1) ((d1.1 0 _ rfl).trans e1.symm) ?_)
    refine And.intro (zp0 hA h0 rfl) (zrd (v := v2) ((d1.1 0 _ rfl).trans e2.symm) ?_)
    refine And.intro (zp0 hA h0 rfl) (zrd (v := v3) ((d1.1 0 _ rfl).trans e3.symm) ?_)
    refine And.intro (zp0 hA h0 rfl) (zrd (v := v4) ((d1.1 0 _ rfl).trans e4.symm) ?_)
    refine And.intro (zak hA xs_165 rfl) (Exists.intro _ (And.intro (zinl_ok (zT21_58 20)) (pq_rule_21 hB1 v1 q1 v2 q2 v3 q3 v4 q4 (fun w hw I2 L2 R2 d2 => ?_))))
    refine And.intro ⟨by constructor <;> omega, by constructor <;> omega⟩ (And.intro (fun _ => ?_) (fun h => absurd h (by omega)))
    refine And.intro (zln0 hA h0) (zrdN (v := 6) (zlv0 h0) ?_)
    refine And.intro ⟨zRb rfl, zRb rfl⟩ (zbt rfl ?_)
    refine And.intro (Or.inr rfl) ?_
    exact ⟨rfl, rfl⟩
  · refine And.intro (zak hA xs_40 rfl) (Exists.intro _ (And.intro (zinl_ok (zT11_11 20)) (pq_cut_11 hA  (fun I1 L1 R1 d1 => ?_))))
    have hB1 := zFr_o hB d1 rfl
    refine And.intro (zak hA xs_165 rfl) (Exists.intro _ (And.intro (zinl_ok (zT21_10 20)) (pq_cut_21 hB1  (fun I2 L2 R2 d2 => ?_))))
    refine And.intro ⟨zRb rfl, zRb rfl⟩ (zbt rfl ?_)
    refine And.intro (zln0 hA h0) (zrdN (v := 6) (zlv0 h0) ?_)
    refine And.intro ⟨zRb rfl, zRb rfl⟩ (zbt rfl ?_)
    refine And.intro (Or.inr rfl) ?_
    exact ⟨rfl, rfl⟩
  · refine And.intro (zak hA xs_40 rfl) (Exists.intro _ (And.intro (zinl_ok (zT11_54 20)) (pq_violations_11 hA  (fun I1 L1 R1 d1 => ?_))))
    have hB1 := zFr_o hB d1 rfl
    refine And.intro (zak hA xs_165 rfl) (Exists.intro _ (And.intro (zinl_ok (zT21_76 20)) (pq_violations_21 hB1  (fun I2 L2 R2 d2 => ?_))))
    refine And.intro ⟨zRb rfl, zRb rfl⟩ (zbt rfl ?_)
    refine And.intro (zln0 hA h0) (zrdN (v := 6) (zlv0 h0) ?_)
    refine And.intro ⟨zRb rfl, zRb rfl⟩ (zbt rfl ?_)
    refine And.intro (Or.inr rfl) ?_
    exact ⟨rfl, rfl⟩
  · refine And.intro (zp0 hA h0 rfl) (fun v1 e1 q1 => ?_)
    refine And.intro (zp0 hA h0 rfl) (fun v2 e2 q2 => ?_)
    refine And.intro (zak hA xs_40 rfl) (Exists.intro _ (And.intro (zinl_ok (zT11_53 20)) (pq_violation_11 hA v1 q1 v2 q2 (fun I1 L1 R1 d1 => ?_))))
    have hB1 := zFr_o hB d1 rfl
    refine And.intro (zp0 hA h0 rfl) (zrd (v := v1) ((d1.1 0 _ rfl).trans e1.symm) ?_)
    refine And.intro (zp0 hA h0 rfl) (zrd (v := v2) ((d1.1 0 _ rfl).trans e2.symm) ?_)
    refine And.intro (zak hA xs_165 rfl) (Exists.intro _ (And.intro (zinl_ok (zT21_75 20)) (pq_violation_21 hB1 v1 q1 v2 q2 (fun I2 L2 R2 d2 => ?_))))
    refine And.intro ⟨zRb rfl, zRb rfl⟩ (zbt rfl ?_)
    refine And.intro (zln0 hA h0) (zrdN (v := 6) (zlv0 h0) ?_)
    refine And.intro ⟨zRb rfl, zRb rfl⟩ (zbt rfl ?_)
    refine And.intro (Or.inr rfl) ?_
    exact ⟨rfl, rfl⟩
  · refine And.intro (zp0 hA h0 rfl) (fun v1 e1 q1 => ?_)
    refine And.intro (zak hA xs_40 rfl) (Exists.intro _ (And.intro (zinl_ok (zT11_7 20)) (pq_copper_11 hA v1 q1 (fun I1 L1 R1 d1 => ?_))))
    have hB1 := zFr_o hB d1 rfl
    refine And.intro (zp0 hA h0 rfl) (zrd (v := v1) ((d1.1 0 _ rfl).trans e1.symm) ?_)
    refine And.intro (zak hA xs_165 rfl) (Exists.intro _ (And.intro (zinl_ok (zT21_6 20)) (pq_copper_21 hB1 v1 q1 (fun I2 L2 R2 d2 => ?_))))
    refine And.intro ⟨zRb rfl, zRb rfl⟩ (zbt rfl ?_)
    refine And.intro (zln0 hA h0) (zrdN (v := 6) (zlv0 h0) ?_)
    refine And.intro ⟨zRb rfl, zRb rfl⟩ (zbt rfl ?_)
    refine And.intro (Or.inr rfl) ?_
    exact ⟨rfl, rfl⟩
  · refine And.intro (zp0 hA h0 rfl) (fun v1 e1 q1 => ?_)
    refine And.intro (zp0 hA h0 rfl) (fun v2 e2 q2 => ?_)
    refine And.intro (zp0 hA h0 rfl) (fun v3 e3 q3 => ?_)
    refine And.intro (zak hA xs_40 rfl) (Exists.intro _ (And.intro (zinl_ok (zT11_0 20)) (pq_airline_11 hA v1 q1 v2 q2 v3 q3 (fun I1 L1 R1 d1 => ?_))))
    have hB1 := zFr_o hB d1 rfl
    refine And.intro (zp0 hA h0 rfl) (zrd (v := v1) ((d1.1 0 _ rfl).trans e1.symm) ?_)
    refine And.intro (zp0 hA h0 rfl) (zrd (v := v2) ((d1.1 0 _ rfl).trans e2.symm) ?_)
    refine And.intro (zp0 hA h0 rfl) (zrd (v := v3) ((d1.1 0 _ rfl).trans e3.symm) ?_)
    refine And.intro (zak hA xs_165 rfl) (Exists.intro _ (And.intro (zinl_ok (zT21_0 20)) (pq_airline_21 hB1 v1 q1 v2 q2 v3 q3 (fun I2 L2 R2 d2 => ?_))))
    refine And.intro ⟨zRb rfl, zRb rfl⟩ (zbt rfl ?_)
    refine And.intro (zln0 hA h0) (zrdN (v := 6) (zlv0 h0) ?_)
    refine And.intro ⟨zRb rfl, zRb rfl⟩ (zbt rfl ?_)
    refine And.intro (Or.inr rfl) ?_
    exact ⟨rfl, rfl⟩
  · refine And.intro (zak hA xs_40 rfl) (Exists.intro _ (And.intro (zinl_ok (zT11_48 20)) (pq_shorts_11 hA  (fun I1 L1 R1 d1 => ?_))))
    have hB1 := zFr_o hB d1 rfl
    refine And.intro (zak hA xs_165 rfl) (Exists.intro _ (And.intro (zinl_ok (zT21_71 20)) (pq_shorts_21 hB1  (fun I2 L2 R2 d2 => ?_))))
    refine And.intro ⟨zRb rfl, zRb rfl⟩ (zbt rfl ?_)
    refine And.intro (zln0 hA h0) (zrdN (v := 6) (zlv0 h0) ?_)
    refine And.intro ⟨zRb rfl, zRb rfl⟩ (zbt rfl ?_)
    refine And.intro (Or.inr rfl) ?_
    exact ⟨rfl, rfl⟩
  · refine And.intro (zak hA xs_40 rfl) (Exists.intro _ (And.intro (zinl_ok (zT11_17 20)) (pq_exact_11 hA  (fun I1 L1 R1 d1 => ?_))))
    have hB1 := zFr_o hB d1 rfl
    refine And.intro (zak hA xs_165 rfl) (Exists.intro _ (And.intro (zinl_ok (zT21_18 20)) (pq_exact_21 hB1  (fun I2 L2 R2 d2 => ?_))))
    refine And.intro ⟨zRb rfl, zRb rfl⟩ (zbt rfl ?_)
    refine And.intro (zln0 hA h0) (zrdN (v := 6) (zlv0 h0) ?_)
    refine And.intro ⟨zRb rfl, zRb rfl⟩ (zbt rfl ?_)
    refine And.intro (Or.inr rfl) ?_
    exact ⟨rfl, rfl⟩
  · refine And.intro (zp0 hA h0 rfl) (fun v1 e1 q1 => ?_)
    refine And.intro (zp0 hA h0 rfl) (fun v2 e2 q2 => ?_)
    refine And.intro (zak hA xs_40 rfl) (Exists.intro _ (And.intro (zinl_ok (zT11_13 20)) (pq_drill_11 hA v1 q1 v2 q2 (fun I1 L1 R1 d1 => ?_))))
    have hB1 := zFr_o hB d1 rfl
    refine And.intro (zp0 hA h0 rfl) (zrd (v := v1) ((d1.1 0 _ rfl).trans e1.symm) ?_)
    refine And.intro (zp0 hA h0 rfl) (zrd (v := v2) ((d1.1 0 _ rfl).trans e2.symm) ?_)
    refine And.intro (zak hA xs_165 rfl) (Exists.intro _ (And.intro (zinl_ok (zT21_14 20)) (pq_drill_21 hB1 v1 q1 v2 q2 (fun I2 L2 R2 d2 => ?_))))
    refine And.intro ⟨zRb rfl, zRb rfl⟩ (zbt rfl ?_)
    refine And.intro (zln0 hA h0) (zrdN (v := 6) (zlv0 h0) ?_)
    refine And.intro ⟨zRb rfl, zRb rfl⟩ (zbt rfl ?_)
    refine And.intro (Or.inr rfl) ?_
    exact ⟨rfl, rfl⟩
  · refine And.intro (zp0 hA h0 rfl) (fun v1 e1 q1 => ?_)
    refine And.intro (zak hA xs_40 rfl) (Exists.intro _ (And.intro (zinl_ok (zT11_39 20)) (pq_reread_11 hA v1 q1 (fun I1 L1 R1 d1 => ?_))))
    have hB1 := zFr_o hB d1 rfl
    refine And.intro (zp0 hA h0 rfl) (zrd (v := v1) ((d1.1 0 _ rfl).trans e1.symm) ?_)
    refine And.intro (zak hA xs_165 rfl) (Exists.intro _ (And.intro (zinl_ok (zT21_53 20)) (pq_reread_21 hB1 v1 q1 (fun I2 L2 R2 d2 => ?_))))
    refine And.intro ⟨zRb rfl, zRb rfl⟩ (zbt rfl ?_)
    refine And.intro (zln0 hA h0) (zrdN (v := 6) (zlv0 h0) ?_)
    refine And.intro ⟨zRb rfl, zRb rfl⟩ (zbt rfl ?_)
    refine And.intro (Or.inr rfl) ?_
    exact ⟨rfl, rfl⟩
  · refine And.intro (zak hA xs_40 rfl) (Exists.intro _ (And.intro (zinl_ok (zT11_33 20)) (pq_program_11 hA  (fun I1 L1 R1 d1 => ?_))))
    have hB1 := zFr_o hB d1 rfl
    refine And.intro (zak hA xs_165 rfl) (Exists.intro _ (And.intro (zinl_ok (zT21_44 20)) (pq_program_21 hB1  (fun I2 L2 R2 d2 => ?_))))
    refine And.intro ⟨zRb rfl, zRb rfl⟩ (zbt rfl ?_)
    refine And.intro (zln0 hA h0) (zrdN (v := 6) (zlv0 h0) ?_)
    refine And.intro ⟨zRb rfl, zRb rfl⟩ (zbt rfl ?_)
    refine And.intro (Or.inr rfl) ?_
    exact ⟨rfl, rfl⟩
  · refine And.intro (zak hA xs_40 rfl) (Exists.intro _ (And.intro (zinl_ok (zT11_18 20)) (pq_facts_11 hA  (fun I1 L1 R1 d1 => ?_))))
    have hB1 := zFr_o hB d1 rfl
    refine And.intro (zak hA xs_165 rfl) (Exists.intro _ (And.intro (zinl_ok (zT21_20 20)) (pq_facts_21 hB1  (fun I2 L2 R2 d2 => ?_))))
    refine And.intro ⟨zRb rfl, zRb rfl⟩ (zbt rfl ?_)
    refine And.intro (zln0 hA h0) (zrdN (v := 6) (zlv0 h0) ?_)
    refine And.intro ⟨zRb rfl, zRb rfl⟩ (zbt rfl ?_)
    refine And.intro (Or.inr rfl) ?_
    exact ⟨rfl, rfl⟩
  · refine And.intro (zp0 hA h0 rfl) (fun v1 e1 q1 => ?_)
    refine And.intro (zak hA xs_40 rfl) (Exists.intro _ (And.intro (zinl_ok (zT11_43 20)) (pq_run_11 hA v1 q1 (fun u hu I1 L1 R1 d1 => ?_))))
    have hB1 := zFr_o hB d1 rfl
    refine And.intro (zp0 hA h0 rfl) (zrd (v := v1) ((d1.1 0 _ rfl).trans e1.symm) ?_)
    refine And.intro (zak hA xs_165 rfl) (Exists.intro _ (And.intro (zinl_ok (zT21_59 20)) (pq_run_21 hB1 v1 q1 (fun w hw I2 L2 R2 d2 => ?_))))
    refine And.intro ⟨by constructor <;> omega, by constructor <;> omega⟩ (And.intro (fun _ => ?_) (fun h => absurd h (by omega)))
    refine And.intro (zln0 hA h0) (zrdN (v := 6) (zlv0 h0) ?_)
    refine And.intro ⟨zRb rfl, zRb rfl⟩ (zbt rfl ?_)
    refine And.intro (Or.inr rfl) ?_
    exact ⟨rfl, rfl⟩
  · refine And.intro (zp0 hA h0 rfl) (fun v1 e1 q1 => ?_)
    refine And.intro (zak hA xs_40 rfl) (Exists.intro _ (And.intro (zinl_ok (zT11_32 20)) (pq_output_11 hA v1 q1 (fun I1 L1 R1 d1 => ?_))))
    have hB1 := zFr_o hB d1 rfl
    refine And.intro (zp0 hA h0 rfl) (zrd (v := v1) ((d1.1 0 _ rfl).trans e1.symm) ?_)
    refine And.intro (zak hA xs_165 rfl) (Exists.intro _ (And.intro (zinl_ok (zT21_42 20)) (pq_output_21 hB1 v1 q1 (fun I2 L2 R2 d2 => ?_))))
    refine And.intro ⟨zRL rfl, zRL rfl⟩ (fun z cz => ?_)
    refine And.intro cz.2.2 (And.intro (fun _ => ?_) (fun h => absurd h (by omega)))
    refine And.intro (zln0 hA h0) (zrdN (v := 6) (zlv0 h0) ?_)
    refine And.intro ⟨zRb rfl, zRb rfl⟩ (zbt rfl ?_)
    refine And.intro (Or.inr rfl) ?_
    exact ⟨rfl, rfl⟩
  · refine And.intro (zp0 hA h0 rfl) (fun v1 e1 q1 => ?_)
    refine And.intro (zak hA xs_40 rfl) (Exists.intro _ (And.intro (zinl_ok (zT11_16 20)) (pq_error_11 hA v1 q1 (fun u hu I1 L1 R1 d1 => ?_))))
    have hB1 := zFr_o hB d1 rfl
    refine And.intro (zp0 hA h0 rfl) (zrd (v := v1) ((d1.1 0 _ rfl).trans e1.symm) ?_)
    refine And.intro (zak hA xs_165 rfl) (Exists.intro _ (And.intro (zinl_ok (zT21_17 20)) (pq_error_21 hB1 v1 q1 (fun w hw I2 L2 R2 d2 => ?_))))
    refine And.intro ⟨by constructor <;> omega, by constructor <;> omega⟩ (And.intro (fun _ => ?_) (fun h => absurd h (by omega)))
    refine And.intro (zln0 hA h0) (zrdN (v := 6) (zlv0 h0) ?_)
    refine And.intro ⟨zRb rfl, zRb rfl⟩ (zbt rfl ?_)
    refine And.intro (Or.inr rfl) ?_
    exact ⟨rfl, rfl⟩
  · refine And.intro (zp0 hA h0 rfl) (fun v1 e1 q1 => ?_)
    refine And.intro (zak hA xs_40 rfl) (Exists.intro _ (And.intro (zinl_ok (zT11_12 20)) (pq_demand_11 hA v1 q1 (fun I1 L1 R1 d1 => ?_))))
    have hB1 := zFr_o hB d1 rfl
    refine And.intro (zp0 hA h0 rfl) (zrd (v := v1) ((d1.1 0 _ rfl).trans e1.symm) ?_)
    refine And.intro (zak hA xs_165 rfl) (Exists.intro _ (And.intro (zinl_ok (zT21_11 20)) (pq_demand_21 hB1 v1 q1 (fun I2 L2 R2 d2 => ?_))))
    refine And.intro ⟨zRb rfl, zRb rfl⟩ (zbt rfl ?_)
    refine And.intro (zln0 hA h0) (zrdN (v := 6) (zlv0 h0) ?_)
    refine And.intro ⟨zRb rfl, zRb rfl⟩ (zbt rfl ?_)
    refine And.intro (Or.inr rfl) ?_
    exact ⟨rfl, rfl⟩
  · refine And.intro (zak hA xs_40 rfl) (Exists.intro _ (And.intro (zinl_ok (zT11_44 20)) (pq_save_11 hA  (fun I1 L1 R1 d1 => ?_))))
    have hB1 := zFr_o hB d1 rfl
    refine And.intro (zak hA xs_165 rfl) (Exists.intro _ (And.intro (zinl_ok (zT21_62 20)) (pq_save_21 hB1  (fun I2 L2 R2 d2 => ?_))))
    refine And.intro ⟨zRb rfl, zRb rfl⟩ (zbt rfl ?_)
    refine And.intro (zln0 hA h0) (zrdN (v := 6) (zlv0 h0) ?_)
    refine And.intro ⟨zRb rfl, zRb rfl⟩ (zbt rfl ?_)
    refine And.intro (Or.inr rfl) ?_
    exact ⟨rfl, rfl⟩
  · refine And.intro (zp0 hA h0 rfl) (fun v1 e1 q1 => ?_)
    refine And.intro (zak hA xs_40 rfl) (Exists.intro _ (And.intro (zinl_ok (zT11_14 20)) (pq_drop_11 hA v1 q1 (fun I1 L1 R1 d1 => ?_))))
    have hB1 := zFr_o hB d1 rfl
    refine And.intro (zp0 hA h0 rfl) (zrd (v := v1) ((d1.1 0 _ rfl).trans e1.symm) ?_)
    refine And.intro (zak hA xs_165 rfl) (Exists.intro _ (And.intro (zinl_ok (zT21_15 20)) (pq_drop_21 hB1 v1 q1 (fun I2 L2 R2 d2 => ?_))))
    refine And.intro ⟨zRb rfl, zRb rfl⟩ (zbt rfl ?_)
    refine And.intro (zln0 hA h0) (zrdN (v := 6) (zlv0 h0) ?_)
    refine And.intro ⟨zRb rfl, zRb rfl⟩ (zbt rfl ?_)
    refine And.intro (Or.inr rfl) ?_
    exact ⟨rfl, rfl⟩
  · refine And.intro (zak hA xs_40 rfl) (Exists.intro _ (And.intro (zinl_ok (zT11_50 20)) (pq_sweep_11 hA  (fun I1 L1 R1 d1 => ?_))))
    have hB1 := zFr_o hB d1 rfl
    refine And.intro (zak hA xs_165 rfl) (Exists.intro _ (And.intro (zinl_ok (zT21_72 20)) (pq_sweep_21 hB1  (fun I2 L2 R2 d2 => ?_))))
    refine And.intro ⟨zRb rfl, zRb rfl⟩ (zbt rfl ?_)
    refine And.intro (zln0 hA h0) (zrdN (v := 6) (zlv0 h0) ?_)
    refine And.intro ⟨zRb rfl, zRb rfl⟩ (zbt rfl ?_)
    refine And.intro (Or.inr rfl) ?_
    exact ⟨rfl, rfl⟩
  · refine And.intro (zp0 hA h0 rfl) (fun v1 e1 q1 => ?_)
    refine And.intro (zak hA xs_40 rfl) (Exists.intro _ (And.intro (zinl_ok (zT11_10 20)) (pq_crash_11 hA v1 q1 (fun u hu I1 L1 R1 d1 => ?_))))
    have hB1 := zFr_o hB d1 rfl
    refine And.intro (zp0 hA h0 rfl) (zrd (v := v1) ((d1.1 0 _ rfl).trans e1.symm) ?_)
    refine And.intro (zak hA xs_165 rfl) (Exists.intro _ (And.intro (zinl_ok (zT21_9 20)) (pq_crash_21 hB1 v1 q1 (fun w hw I2 L2 R2 d2 => ?_))))
    refine And.intro ⟨by constructor <;> omega, by constructor <;> omega⟩ (And.intro (fun _ => ?_) (fun h => absurd h (by omega)))
    refine And.intro (zln0 hA h0) (zrdN (v := 6) (zlv0 h0) ?_)
    refine And.intro ⟨zRb rfl, zRb rfl⟩ (zbt rfl ?_)
    refine And.intro (Or.inr rfl) ?_
    exact ⟨rfl, rfl⟩
  · refine And.intro (zak hA xs_40 rfl) (Exists.intro _ (And.intro (zinl_ok (zT11_38 20)) (pq_reopen_11 hA  (fun I1 L1 R1 d1 => ?_))))
    have hB1 := zFr_o hB d1 rfl
    refine And.intro (zak hA xs_165 rfl) (Exists.intro _ (And.intro (zinl_ok (zT21_51 20)) (pq_reopen_21 hB1  (fun I2 L2 R2 d2 => ?_))))
    refine And.intro ⟨zRb rfl, zRb rfl⟩ (zbt rfl ?_)
    refine And.intro (zln0 hA h0) (zrdN (v := 6) (zlv0 h0) ?_)
    refine And.intro ⟨zRb rfl, zRb rfl⟩ (zbt rfl ?_)
    refine And.intro (Or.inr rfl) ?_
    exact ⟨rfl, rfl⟩
  · refine And.intro (zp0 hA h0 rfl) (fun v1 e1 q1 => ?_)
    refine And.intro (zp0 hA h0 rfl) (fun v2 e2 q2 => ?_)
    refine And.intro (zak hA xs_40 rfl) (Exists.intro _ (And.intro (zinl_ok (zT11_45 20)) (pq_saved_11 hA v1 q1 v2 q2 (fun I1 L1 R1 d1 => ?_))))
    have hB1 := zFr_o hB d1 rfl
    refine And.intro (zp0 hA h0 rfl) (zrd (v := v1) ((d1.1 0 _ rfl).trans e1.symm) ?_)
    refine And.intro (zp0 hA h0 rfl) (zrd (v := v2) ((d1.1 0 _ rfl).trans e2.symm) ?_)
    refine And.intro (zak hA xs_165 rfl) (Exists.intro _ (And.intro (zinl_ok (zT21_63 20)) (pq_saved_21 hB1 v1 q1 v2 q2 (fun I2 L2 R2 d2 => ?_))))
    refine And.intro ⟨zRb rfl, zRb rfl⟩ (zbt rfl ?_)
    refine And.intro (zln0 hA h0) (zrdN (v := 6) (zlv0 h0) ?_)
    refine And.intro ⟨zRb rfl, zRb rfl⟩ (zbt rfl ?_)
    refine And.intro (Or.inr rfl) ?_
    exact ⟨rfl, rfl⟩
  · refine And.intro (zp0 hA h0 rfl) (fun v1 e1 q1 => ?_)
    refine And.intro (zak hA xs_40 rfl) (Exists.intro _ (And.intro (zinl_ok (zT11_27 20)) (pq_load_11 hA v1 q1 (fun I1 L1 R1 d1 => ?_))))
    have hB1 := zFr_o hB d1 rfl
    refine And.intro (zp0 hA h0 rfl) (zrd (v := v1) ((d1.1 0 _ rfl).trans e1.symm) ?_)
    refine And.intro (zak hA xs_165 rfl) (Exists.intro _ (And.intro (zinl_ok (zT21_36 20)) (pq_load_21 hB1 v1 q1 (fun I2 L2 R2 d2 => ?_))))
    refine And.intro ⟨zRb rfl, zRb rfl⟩ (zbt rfl ?_)
    refine And.intro (zln0 hA h0) (zrdN (v := 6) (zlv0 h0) ?_)
    refine And.intro ⟨zRb rfl, zRb rfl⟩ (zbt rfl ?_)
    refine And.intro (Or.inr rfl) ?_
    exact ⟨rfl, rfl⟩
  · refine And.intro (zak hA xs_40 rfl) (Exists.intro _ (And.intro (zinl_ok (zT11_36 20)) (pq_release_11 hA  (fun I1 L1 R1 d1 => ?_))))
    have hB1 := zFr_o hB d1 rfl
    refine And.intro (zak hA xs_165 rfl) (Exists.intro _ (And.intro (zinl_ok (zT21_49 20)) (pq_release_21 hB1  (fun I2 L2 R2 d2 => ?_))))
    refine And.intro ⟨zRb rfl, zRb rfl⟩ (zbt rfl ?_)
    refine And.intro (zln0 hA h0) (zrdN (v := 6) (zlv0 h0) ?_)
    refine And.intro ⟨zRb rfl, zRb rfl⟩ (zbt rfl ?_)
    refine And.intro (Or.inr rfl) ?_
    exact ⟨rfl, rfl⟩
  · refine And.intro (zp0 hA h0 rfl) (fun v1 e1 q1 => ?_)
    refine And.intro (zp0 hA h0 rfl) (fun v2 e2 q2 => ?_)
    refine And.intro (zp0 hA h0 rfl) (fun v3 e3 q3 => ?_)
    refine And.intro (zak hA xs_40 rfl) (Exists.intro _ (And.intro (zinl_ok (zT11_2 20)) (pq_approve_11 hA v1 q1 v2 q2 v3 q3 (fun I1 L1 R1 d1 => ?_))))
    have hB1 := zFr_o hB d1 rfl
    refine And.intro (zp0 hA h0 rfl) (zrd (v := v1) ((d1.1 0 _ rfl).trans e1.symm) ?_)
    refine And.intro (zp0 hA h0 rfl) (zrd (v := v2) ((d1.1 0 _ rfl).trans e2.symm) ?_)
    refine And.intro (zp0 hA h0 rfl) (zrd (v := v3) ((d1.1 0 _ rfl).trans e3.symm) ?_)
    refine And.intro (zak hA xs_165 rfl) (Exists.intro _ (And.intro (zinl_ok (zT21_1 20)) (pq_approve_21 hB1 v1 q1 v2 q2 v3 q3 (fun I2 L2 R2 d2 => ?_))))
    refine And.intro ⟨zRb rfl, zRb rfl⟩ (zbt rfl ?_)
    refine And.intro (zln0 hA h0) (zrdN (v := 6) (zlv0 h0) ?_)
    refine And.intro ⟨zRb rfl, zRb rfl⟩ (zbt rfl ?_)
    refine And.intro (Or.inr rfl) ?_
    exact ⟨rfl, rfl⟩
  · refine And.intro (zp0 hA h0 rfl) (fun v1 e1 q1 => ?_)
    refine And.intro (zak hA xs_40 rfl) (Exists.intro _ (And.intro (zinl_ok (zT11_56 20)) (pq_withdraw_11 hA v1 q1 (fun I1 L1 R1 d1 => ?_))))
    have hB1 := zFr_o hB d1 rfl
    refine And.intro (zp0 hA h0 rfl) (zrd (v := v1) ((d1.1 0 _ rfl).trans e1.symm) ?_)
    refine And.intro (zak hA xs_165 rfl) (Exists.intro _ (And.intro (zinl_ok (zT21_79 20)) (pq_withdraw_21 hB1 v1 q1 (fun I2 L2 R2 d2 => ?_))))
    refine And.intro ⟨zRb rfl, zRb rfl⟩ (zbt rfl ?_)
    refine And.intro (zln0 hA h0) (zrdN (v := 6) (zlv0 h0) ?_)
    refine And.intro ⟨zRb rfl, zRb rfl⟩ (zbt rfl ?_)
    refine And.intro (Or.inr rfl) ?_
    exact ⟨rfl, rfl⟩
  · refine And.intro (zp0 hA h0 rfl) (fun v1 e1 q1 => ?_)
    refine And.intro (zak hA xs_40 rfl) (Exists.intro _ (And.intro (zinl_ok (zT11_46 20)) (pq_serial_11 hA v1 q1 (fun I1 L1 R1 d1 => ?_))))
    have hB1 := zFr_o hB d1 rfl
    refine And.intro (zp0 hA h0 rfl) (zrd (v := v1) ((d1.1 0 _ rfl).trans e1.symm) ?_)
    refine And.intro (zak hA xs_165 rfl) (Exists.intro _ (And.intro (zinl_ok (zT21_68 20)) (pq_serial_21 hB1 v1 q1 (fun I2 L2 R2 d2 => ?_))))
    refine And.intro ⟨zRb rfl, zRb rfl⟩ (zbt rfl ?_)
    refine And.intro (zln0 hA h0) (zrdN (v := 6) (zlv0 h0) ?_)
    refine And.intro ⟨zRb rfl, zRb rfl⟩ (zbt rfl ?_)
    refine And.intro (Or.inr rfl) ?_
    exact ⟨rfl, rfl⟩
  · refine And.intro (zp0 hA h0 rfl) (fun v1 e1 q1 => ?_)
    refine And.intro (zp0 hA h0 rfl) (fun v2 e2 q2 => ?_)
    refine And.intro (zak hA xs_40 rfl) (Exists.intro _ (And.intro (zinl_ok (zT11_40 20)) (pq_root_11 hA v1 q1 v2 q2 (fun I1 L1 R1 d1 => ?_))))
    have hB1 := zFr_o hB d1 rfl
    refine And.intro (zp0 hA h0 rfl) (zrd (v := v1) ((d1.1 0 _ rfl).trans e1.symm) ?_)
    refine And.intro (zp0 hA h0 rfl) (zrd (v := v2) ((d1.1 0 _ rfl).trans e2.symm) ?_)
    refine And.intro (zak hA xs_165 rfl) (Exists.intro _ (And.intro (zinl_ok (zT21_54 20)) (pq_root_21 hB1 v1 q1 v2 q2 (fun I2 L2 R2 d2 => ?_))))
    refine And.intro ⟨zRb rfl, zRb rfl⟩ (zbt rfl ?_)
    refine And.intro (zln0 hA h0) (zrdN (v := 6) (zlv0 h0) ?_)
    refine And.intro ⟨zRb rfl, zRb rfl⟩ (zbt rfl ?_)
    refine And.intro (Or.inr rfl) ?_
    exact ⟨rfl, rfl⟩
  · refine And.intro (zp0 hA h0 rfl) (fun v1 e1 q1 => ?_)
    refine And.intro (zp0 hA h0 rfl) (fun v2 e2 q2 => ?_)
    refine And.intro (zp0 hA h0 rfl) (fun v3 e3 q3 => ?_)
    refine And.intro (zak hA xs_40 rfl) (Exists.intro _ (And.intro (zinl_ok (zT11_34 20)) (pq_proof_11 hA v1 q1 v2 q2 v3 q3 (fun I1 L1 R1 d1 => ?_))))
    have hB1 := zFr_o hB d1 rfl
    refine And.intro (zp0 hA h0 rfl) (zrd (v := v1) ((d1.1 0 _ rfl).trans e1.symm) ?_)
    refine And.intro (zp0 hA h0 rfl) (zrd (v := v2) ((d1.1 0 _ rfl).trans e2.symm) ?_)
    refine And.intro (zp0 hA h0 rfl) (zrd (v := v3) ((d1.1 0 _ rfl).trans e3.symm) ?_)
    refine And.intro (zak hA xs_165 rfl) (Exists.intro _ (And.intro (zinl_ok (zT21_45 20)) (pq_proof_21 hB1 v1 q1 v2 q2 v3 q3 (fun I2 L2 R2 d2 => ?_))))
    refine And.intro ⟨zRb rfl, zRb rfl⟩ (zbt rfl ?_)
    refine And.intro (zln0 hA h0) (zrdN (v := 6) (zlv0 h0) ?_)
    refine And.intro ⟨zRb rfl, zRb rfl⟩ (zbt rfl ?_)
    refine And.intro (Or.inr rfl) ?_
    exact ⟨rfl, rfl⟩
  · refine And.intro (zp0 hA h0 rfl) (fun v1 e1 q1 => ?_)
    refine And.intro (zp0 hA h0 rfl) (fun v2 e2 q2 => ?_)
    refine And.intro (zp0 hA h0 rfl) (fun v3 e3 q3 => ?_)
    refine And.intro (zp0 hA h0 rfl) (fun v4 e4 q4 => ?_)
    refine And.intro (zak hA xs_40 rfl) (Exists.intro _ (And.intro (zinl_ok (zT11_6 20)) (pq_check_11 hA v1 q1 v2 q2 v3 q3 v4 q4 (fun I1 L1 R1 d1 => ?_))))
    have hB1 := zFr_o hB d1 rfl
    refine And.intro (zp0 hA h0 rfl) (zrd (v := v1) ((d1.1 0 _ rfl).trans e1.symm) ?_)
    refine And.intro (zp0 hA h0 rfl) (zrd (v := v2) ((d1.1 0 _ rfl).trans e2.symm) ?_)
    refine And.intro (zp0 hA h0 rfl) (zrd (v := v3) ((d1.1 0 _ rfl).trans e3.symm) ?_)
    refine And.intro (zp0 hA h0 rfl) (zrd (v := v4) ((d1.1 0 _ rfl).trans e4.symm) ?_)
    refine And.intro (zak hA xs_165 rfl) (Exists.intro _ (And.intro (zinl_ok (zT21_5 20)) (pq_check_21 hB1 v1 q1 v2 q2 v3 q3 v4 q4 (fun I2 L2 R2 d2 => ?_))))
    refine And.intro ⟨zRb rfl, zRb rfl⟩ (zbt rfl ?_)
    refine And.intro (zln0 hA h0) (zrdN (v := 6) (zlv0 h0) ?_)
    refine And.intro ⟨zRb rfl, zRb rfl⟩ (zbt rfl ?_)
    refine And.intro (Or.inr rfl) ?_
    exact ⟨rfl, rfl⟩
  · refine And.intro (zak hA xs_40 rfl) (Exists.intro _ (And.intro (zinl_ok (zT11_52 20)) (pq_told_11 hA  (fun I1 L1 R1 d1 => ?_))))
    have hB1 := zFr_o hB d1 rfl
    refine And.intro (zak hA xs_165 rfl) (Exists.intro _ (And.intro (zinl_ok (zT21_74 20)) (pq_told_21 hB1  (fun I2 L2 R2 d2 => ?_))))
    refine And.intro ⟨zRb rfl, zRb rfl⟩ (zbt rfl ?_)
    refine And.intro (zln0 hA h0) (zrdN (v := 6) (zlv0 h0) ?_)
    refine And.intro ⟨zRb rfl, zRb rfl⟩ (zbt rfl ?_)
    refine And.intro (Or.inr rfl) ?_
    exact ⟨rfl, rfl⟩
  · refine And.intro (zln0 hA h0) (zrdN (v := 6) (zlv0 h0) ?_)
    refine And.intro ⟨zRb rfl, zRb rfl⟩ (zbt rfl ?_)
    refine And.intro (Or.inr rfl) ?_
    exact ⟨rfl, rfl⟩
theorem pl_cA : Xr xP 1500 (xP 11 23) (xfind (xP 11 23).2.2.2.2.2 0).1 (xfind (xP 11 23).2.2.2.2.2 0).2 (lv_args 0 [.ref 40]) [] (xnew xmh 11 20) (fun v m => v = none ∧ m = xmA) := ⟨4000, none, xmA, by
  have h := xcA_ok
  unfold xcA at h
  rw [xgo_eq] at h
  exact h, rfl, rfl⟩
theorem pl_cB : Xr xP 1500 (xP 21 30) (xfind (xP 21 30).2.2.2.2.2 0).1 (xfind (xP 21 30).2.2.2.2.2 0).2 (lv_args 0 [.ref 165]) [] (xnew xmA 21 51) (fun v m => v = none ∧ m = xmB) := ⟨6000, none, xmB, by
  have h := xcB_ok
  unfold xcB at h
  rw [xgo_eq] at h
  exact h, rfl, rfl⟩
theorem pl_and (M : XM) {n k : Nat} (h : xokN M n k = true) : xn M = n ∧ xw M ≤ k := by
  unfold xokN at h
  rw [Bool.and_eq_true] at h
  exact ⟨Nat.eq_of_beq_eq_true h.1, Nat.le_of_ble_eq_true h.2⟩
theorem pl_nA : xn xmA = 165 := (pl_and xmA xmA_n).1
theorem pl_nB : xn xmB = 302 ∧ xw xmB ≤ 480000 := pl_and xmB xmB_n
theorem pl_ast {lv : List (Nat × Value)} {k : Fin 4} {v nL : Nat} {r : List Value} (h : k.val < nL) : xs5 nL (.astore_n k) lv (.ref v :: r) = some (xst1 lv k.val (.ref v), r) := if_pos h
theorem pl_ist {lv : List (Nat × Value)} {k : Fin 4} {v : Int32} {nL : Nat} {r : List Value} (h : k.val < nL) : xs5 nL (.istore_n k) lv (.int v :: r) = some (xst1 lv k.val (.int v), r) := if_pos h
theorem pl_n9 {L : Nat} {xs : Nat → Int32} (M : XM) {n : Nat} (h : xn M = n) (hn : Nat.ble 40 n = true) (t len : Nat) : xnew (xsc L xs M) t len = xsc L xs (xnew M t len) := xsc_new (by rw [h]; exact Nat.ne_of_gt (Nat.lt_of_lt_of_le (by decide) (Nat.le_of_ble_eq_true hn))) t len
theorem pl_s0 (M : XM) {n : Nat} (h : xn M = n) (hn : Nat.ble 40 n = true) (h0 : xsh M 0 = (0, 0)) (t len : Nat) : xsh (xnew M t len) 0 = (0, 0) ∧ x0 ≤ xn (xnew M t len) := by
  have h1 := Nat.le_of_ble_eq_true hn
  constructor
  · show (if 0 = xn M then (t, len) else xsh M 0) = (0, 0)
    rw [if_neg (by omega), h0]
  · show 40 ≤ xn M + 1
    omega
theorem pl_new (M : XM) {L : Nat} {xs : Nat → Int32} {n i a b : Nat} {st : List Value} (h : xn M = n) (hn : Nat.ble 40 n = true) : xs8 (.new i) a b st (xsc L xs M) = some (.ref n :: st, xsc L xs (xnew M a b)) := by
  show some (Value.ref (xn M) :: st, xnew (xsc L xs M) a b) = _
  rw [pl_n9 M h hn, h]
theorem pl_cI {i a b k : Nat} {rest : List Value} {m : XM} (ha : a < 22) (hb : b % 64 = 0) (hc : Nat.blt 8 (xcats rest) = false) : xcall xP (.invokespecial i) a b (.ref k :: rest) m = some (xP a (b / 64), [.ref k], rest) := by
  unfold xcall
  dsimp only
  rw [hb]
  exact if_pos ⟨ha, hc⟩
theorem pl_pre {MA MB : XM} (cA : Xr xP 1500 (xP 11 23) (xfind (xP 11 23).2.2.2.2.2 0).1 (xfind (xP 11 23).2.2.2.2.2 0).2 (lv_args 0 [.ref 40]) [] (xnew xmh 11 20) (fun v m => v = none ∧ m = MA))
    (cB : Xr xP 1500 (xP 21 30) (xfind (xP 21 30).2.2.2.2.2 0).1 (xfind (xP 21 30).2.2.2.2.2 0).2 (lv_args 0 [.ref 165]) [] (xnew MA 21 51) (fun v m => v = none ∧ m = MB)) (nA : xn MA = 165)
    {L : Nat} {xs : Nat → Int32} {Qm : Option Value → XM → Prop} (k : Xr xP 1501 (xP 22 0) (xfind (xP 22 0).2.2.2.2.2 18).1 (xfind (xP 22 0).2.2.2.2.2 18).2 [(3, .int 0), (2, .ref 165), (1, .ref 40), (0, .ref 0)] [] (xsc L xs MB) Qm) : Xr xP 1501 (xP 22 0) (xfind (xP 22 0).2.2.2.2.2 0).1 (xfind (xP 22 0).2.2.2.2.2 0).2 [(0, .ref 0)] [] (xm0 L xs) Qm := by
  have hs := pl_s0 xmh (n := 40) rfl rfl rfl 11 20
  refine X_s8 (pl_new xmh (n := 40) rfl rfl) ?_
  refine X_s4 (st' := [.ref 40, .ref 40]) rfl ?_
  refine X_call (d := 1500) (row := xP 11 23) (av := [.ref 40]) (rest := [.ref 40]) (pl_cI (by decide) rfl rfl) (by decide +kernel) rfl (X_post (X_sc (L := L) (xs := xs) hs.1 hs.2 cA) ?_)
  rintro v m' ⟨m1, rfl, ⟨rfl, rfl⟩, h0, -⟩
  refine X_s5 (lv' := [(1, .ref 40), (0, .ref 0)]) (st' := []) (pl_ast (by decide +kernel)) ?_
  have hs2 := pl_s0 m1 nA rfl h0 21 51
  refine X_s8 (pl_new m1 nA rfl) ?_
  refine X_s4 (st' := [.ref 165, .ref 165]) rfl ?_
  refine X_call (d := 1500) (row := xP 21 30) (av := [.ref 165]) (rest := [.ref 165]) (pl_cI (by decide) rfl rfl) (by decide +kernel) rfl (X_post (X_sc (L := L) (xs := xs) hs2.1 hs2.2 cB) ?_)
  rintro v m' ⟨m2, rfl, ⟨rfl, rfl⟩, h3, -⟩
  refine X_s5 (lv' := [(2, .ref 165), (1, .ref 40), (0, .ref 0)]) (st' := []) (pl_ast (by decide +kernel)) ?_
  refine X_s1 (st' := [.int 0]) rfl ?_
  refine X_s5 (lv' := [(3, .int 0), (2, .ref 165), (1, .ref 40), (0, .ref 0)]) (st' := []) (pl_ist (by decide +kernel)) ?_
  exact X_go rfl k
theorem zmem_of (m : XM) : zmem (fun k j => (m.1 k j).toInt) (fun k j => (m.2.1 k j).toInt) m.2.2.1 m.2.2.2 = m := by
  unfold zmem
  simp only [Int32.ofInt_toInt, Int64.ofInt_toInt]
theorem zok_of (m : XM) : zok (fun k j => (m.1 k j).toInt) (fun k j => (m.2.1 k j).toInt) := ⟨fun k j => by
  have h1 := Int32.le_toInt (m.1 k j)
  have h2 := Int32.toInt_lt (m.1 k j)
  show -2147483648 ≤ (m.1 k j).toInt ∧ (m.1 k j).toInt ≤ 2147483647
  omega, fun k j => by
  have h1 := Int64.le_toInt (m.2.1 k j)
  have h2 := Int64.toInt_lt (m.2.1 k j)
  show -9223372036854775808 ≤ (m.2.1 k j).toInt ∧ (m.2.1 k j).toInt ≤ 9223372036854775807
  omega⟩
theorem pl_lv : zlr [some (zvr 0), some (zvr 40), some (zvr 165), some (zvi 0)] [(3, .int 0), (2, .ref 165), (1, .ref 40), (0, .ref 0)]
  | 0, _, h => by cases h; rfl
  | 1, _, h => by cases h; rfl
  | 2, _, h => by cases h; rfl
  | 3, _, h => by cases h; rfl
  | n + 4, _, h => by cases h
/-- what the law's loop asks, at its head, gives its run -/
theorem pl_runG {MA MB : XM} (cA : Xr xP 1500 (xP 11 23) (xfind (xP 11 23).2.2.2.2.2 0).1 (xfind (xP 11 23).2.2.2.2.2 0).2 (lv_args 0 [.ref 40]) [] (xnew xmh 11 20) (fun v m => v = none ∧ m = MA))
    (cB : Xr xP 1500 (xP 21 30) (xfind (xP 21 30).2.2.2.2.2 0).1 (xfind (xP 21 30).2.2.2.2.2 0).2 (lv_args 0 [.ref 165]) [] (xnew MA 21 51) (fun v m => v = none ∧ m = MB)) (nA : xn MA = 165)
    {L : Nat} {xs : Nat → Int32} {Q : ZQ} {cuts : List Nat} {K : ZK} (hK : zKok cuts 1500 (xP 22 0) Q K)
    (h : zwp (zt22_0 21) cuts K Q 100000 18 [some (zvr 0), some (zvr 40), some (zvr 165), some (zvi 0)] [] (fun k j => ((xsc L xs MB).1 k j).toInt) (fun k j => ((xsc L xs MB).2.1 k j).toInt) (xsc L xs MB).2.2.1 (xsc L xs MB).2.2.2)
    (hQ : ∀ r I L R S, Q r I L R S → r = some (zvi 1) ∧ S.2.1 ≤ 600000 ∧ S.2.2 ≤ 7302250) : ∃ f mF, xgo (xrun xP f) 1501 (xP 22 0) 0 [(0, .ref 0)] [] (xm0 L xs) = some (some (.int 1), mF) ∧ xn mF ≤ 600000 ∧ xw mF ≤ 7302250 := by
  have ht := (zT22_0 21).2
  rw [← ht] at h
  have h1 := zwp_ok (w := xP 22 0) (Q := Q) (h := 21) (show 21 ≤ 1500 by decide) hK 100000 18 _ _ _ _ _ _ _ h (zok_of (xsc L xs MB)) pl_lv
  rw [zmem_of] at h1
  obtain ⟨f, v, mF, h2, r, I, L', R, S, rfl, rfl, -, hq⟩ := pl_pre cA cB nA h1
  obtain ⟨rfl, h3, h4⟩ := hQ _ _ _ _ _ hq
  exact ⟨f, _, h2, h3, h4⟩
/-- a side of the memory is M's; all cells are there -/
def zFrM (M : XM) (lo hi : Nat) (I L : ZI) (R : ZR) (S : ZS) : Prop := (S.2.1 = 302 ∧ ∀ k, Nat.ble 40 k = true → S.1 k = xsh M k) ∧ ∀ k, (Nat.ble lo k && Nat.blt k hi) = true → ∀ j, I k j = (M.1 k j).toInt ∧ L k j = (M.2.1 k j).toInt ∧ R k j = M.2.2.1 k j
theorem pl_FrM (M : XM) (hn : xn M = 302) {L : Nat} {xs : Nat → Int32} {lo hi : Nat} (hlo : Nat.ble 40 lo = true) : zFrM M lo hi (fun k j => ((xsc L xs M).1 k j).toInt) (fun k j => ((xsc L xs M).2.1 k j).toInt) (xsc L xs M).2.2.1 (xsc L xs M).2.2.2 := by
  have h1 := Nat.le_of_ble_eq_true hlo
  refine ⟨⟨hn, fun k hk => if_neg (by have := Nat.le_of_ble_eq_true hk; omega)⟩, fun k hk j => ?_⟩
  rw [Bool.and_eq_true] at hk
  have h2 := Nat.le_of_ble_eq_true hk.1
  refine ⟨?_, rfl, rfl⟩
  show (if k = 0 then xs j else M.1 k j).toInt = _
  rw [if_neg (by omega)]
theorem pl_FrA {L : Nat} {xs : Nat → Int32} {lo hi : Nat} (hlo : Nat.ble 40 lo = true) : zFr lo hi (fun k j => ((xsc L xs xmB).1 k j).toInt) (fun k j => ((xsc L xs xmB).2.1 k j).toInt) (xsc L xs xmB).2.2.1 (xsc L xs xmB).2.2.2 := pl_FrM xmB pl_nB.1 hlo
theorem pl_s00 (M : XM) {L : Nat} {xs : Nat → Int32} : (xsc L xs M).2.2.2.1 0 = (100, L) := rfl
theorem pl_sn (M : XM) (h : xn M = 302 ∧ xw M ≤ 480000) {L : Nat} {xs : Nat → Int32} : (xsc L xs M).2.2.2.2.1 ≤ 600000 ∧ (xsc L xs M).2.2.2.2.2 ≤ 7302250 := ⟨Nat.le_trans (Nat.le_of_eq h.1) (by decide), Nat.le_trans h.2 (by decide)⟩
theorem pl_all {L : Nat} {xs : Nat → Int32} (hL : L ≤ 6) : ∃ f mF, xgo (xrun xP f) 1501 (xP 22 0) 0 [(0, .ref 0)] [] (xm0 L xs) = some (some (.int 1), mF) ∧ xn mF ≤ 600000 ∧ xw mF ≤ 7302250 := by
  have hA := pl_FrA (L := L) (xs := xs) (lo := 40) (hi := 165) rfl
  have hB := pl_FrA (L := L) (xs := xs) (lo := 165) (hi := 302) rfl
  have h0 := pl_s00 xmB (L := L) (xs := xs)
  refine pl_runG pl_cA pl_cB pl_nA (cuts := []) (K := fun _ _ _ _ _ _ _ => False) (Q := pl_Q (xsc L xs xmB).2.2.2) (fun _ h => by cases h) ?_ ?_
  · rcases Nat.lt_or_ge L 6 with h | h
    · exact pl_short hA h0 h
    · have e : L = 6 := Nat.le_antisymm hL h
      subst e
      exact pl_six hA hB h0
  · intro r I L' R S h
    obtain ⟨h1, h2⟩ := h
    rw [h2]
    exact ⟨h1, pl_sn xmB pl_nB⟩

