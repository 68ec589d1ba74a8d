/-! the law's list against its bytes, block by block -/
def mj_ckT (tg : Nat → Bool) (mm pc op a b x : Nat) (is : List mj_O) : Bool := match op with
  | 21 => decide (a ≤ 5) && mj_df (mj_mb mm) pc is (.ifCond (mj_ccI a) ((b : Int) - pc)) 3 && tg b
  | 22 => decide (a ≤ 5) && mj_df (mj_mb mm) pc is (.if_icmp (mj_ccI a) ((b : Int) - pc)) 3 && tg b
  | 23 => mj_dk (mj_mb mm) pc (.goto ((b : Int) - pc)) 3 && tg b
  | 24 => tg b && (mj_swt a).all (fun q => tg q.2) && ((mj_dx (mj_mb mm) pc (mj_swk pc b (mj_swt a)) && mj_swu (mj_swt a) && !(mj_swt a).isEmpty) || (mj_dx (mj_mb mm) pc (mj_swl pc b (mj_swt a)) && mj_sws (mj_swt a)))
  | _ => mj_ckop mm pc op a b x is
theorem mj_ckT_ok {tg : Nat → Bool} {mm : Nat} (h : ∀ t, tg t = true → mj_tg mm t = true) {pc op a b x : Nat} {is : List mj_O} (k : mj_ckT tg mm pc op a b x is = true) : mj_ckop mm pc op a b x is = true := by
  unfold mj_ckT at k
  split at k
  · simp only [mj_ckop, Bool.and_eq_true] at k ⊢
    exact ⟨k.1, h _ k.2⟩
  · simp only [mj_ckop, Bool.and_eq_true] at k ⊢
    exact ⟨k.1, h _ k.2⟩
  · simp only [mj_ckop, Bool.and_eq_true] at k ⊢
    exact ⟨k.1, h _ k.2⟩
  · simp only [mj_ckop, Bool.and_eq_true, List.all_eq_true] at k ⊢
    exact ⟨⟨h _ k.1.1, fun q hq => h _ (k.1.2 q hq)⟩, k.2⟩
  · exact k
def mj_ckN (tg : Nat → Bool) (mm : Nat) : Nat → List mj_O → Bool
  | 0, _ => true
  | _ + 1, [] => false
  | n + 1, o :: is => mj_ckT tg mm o.1 o.2.1 o.2.2.1 o.2.2.2.1 o.2.2.2.2 is && mj_ckN tg mm n is
theorem mj_ckN_ok {tg : Nat → Bool} {mm : Nat} (h : ∀ t, tg t = true → mj_tg mm t = true) : ∀ {n : Nat} {l : List mj_O}, mj_ckN tg mm n l = true → mj_ckL mm (l.drop n) = true → mj_ckL mm l = true
  | 0, _, _, k => k
  | _ + 1, [], k, _ => by cases k
  | n + 1, o :: is, k, k2 => by
    simp only [mj_ckN, Bool.and_eq_true] at k
    simp only [mj_ckL, Bool.and_eq_true]
    exact ⟨mj_ckT_ok h k.1, mj_ckN_ok h k.2 k2⟩
def lw_tg : List Nat := [0, 23, 224, 297, 333, 350, 353, 366, 402, 419, 422, 470, 487, 490, 538, 555, 558, 606, 623, 626, 651, 699, 716, 719, 767, 784, 787, 823, 840, 843, 891, 908, 909, 915, 918, 931, 979, 996, 999, 1035, 1052, 1055, 1091, 1108, 1111, 1147, 1164, 1167, 1203, 1220, 1223, 1236, 1249, 1262, 1298, 1315, 1318, 1332, 1368, 1385, 1388, 1424, 1441, 1444, 1504, 1521, 1524, 1560, 1577, 1580, 1640, 1657, 1660, 1671, 1707, 1724, 1727, 1763, 1780, 1783, 1831, 1848, 1851, 1911, 1928, 1931, 1944, 2004, 2021, 2024, 2072, 2089, 2092, 2105, 2141, 2158, 2161, 2197, 2214, 2217, 2230, 2241, 2254, 2260]
theorem mj_tg_r {mm t : Nat} (h1 : mj_jm t (mj_code mm 0) = mj_code mm t) (h2 : mj_pc (mj_code mm t) = t) (h3 : (mj_code mm t).isEmpty = false) : mj_tg mm t = true := by
  simp only [mj_tg, Bool.and_eq_true, decide_eq_true_eq, beq_iff_eq]
  exact ⟨⟨h1, h2⟩, by rw [h3]; rfl⟩
set_option maxRecDepth 1000000 in
theorem lwt_0 : mj_tg 323 0 = true := mj_tg_r rfl rfl rfl
set_option maxRecDepth 1000000 in
theorem lwt_23 : mj_tg 323 23 = true := mj_tg_r rfl rfl rfl
set_option maxRecDepth 1000000 in
theorem lwt_224 : mj_tg 323 224 = true := mj_tg_r rfl rfl rfl
set_option maxRecDepth 1000000 in
theorem lwt_297 : mj_tg 323 297 = true := mj_tg_r rfl rfl rfl
set_option maxRecDepth 1000000 in
theorem lwt_333 : mj_tg 323 333 = true := mj_tg_r rfl rfl rfl
set_option maxRecDepth 1000000 in
theorem lwt_350 : mj_tg 323 350 = true := mj_tg_r rfl rfl rfl
set_option maxRecDepth 1000000 in
theorem lwt_353 : mj_tg 323 353 = true := mj_tg_r rfl rfl rfl
set_option maxRecDepth 1000000 in
theorem lwt_366 : mj_tg 323 366 = true := mj_tg_r rfl rfl rfl
set_option maxRecDepth 1000000 in
theorem lwt_402 : mj_tg 323 402 = true := mj_tg_r rfl rfl rfl
set_option maxRecDepth 1000000 in
theorem lwt_419 : mj_tg 323 419 = true := mj_tg_r rfl rfl rfl
set_option maxRecDepth 1000000 in
theorem lwt_422 : mj_tg 323 422 = true := mj_tg_r rfl rfl rfl
set_option maxRecDepth 1000000 in
theorem lwt_470 : mj_tg 323 470 = true := mj_tg_r rfl rfl rfl
set_option maxRecDepth 1000000 in
theorem lwt_487 : mj_tg 323 487 = true := mj_tg_r rfl rfl rfl
set_option maxRecDepth 1000000 in
theorem lwt_490 : mj_tg 323 490 = true := mj_tg_r rfl rfl rfl
set_option maxRecDepth 1000000 in
theorem lwt_538 : mj_tg 323 538 = true := mj_tg_r rfl rfl rfl
set_option maxRecDepth 1000000 in
theorem lwt_555 : mj_tg 323 555 = true := mj_tg_r rfl rfl rfl
set_option maxRecDepth 1000000 in
theorem lwt_558 : mj_tg 323 558 = true := mj_tg_r rfl rfl rfl
set_option maxRecDepth 1000000 in
theorem lwt_606 : mj_tg 323 606 = true := mj_tg_r rfl rfl rfl
set_option maxRecDepth 1000000 in
theorem lwt_623 : mj_tg 323 623 = true := mj_tg_r rfl rfl rfl
set_option maxRecDepth 1000000 in
theorem lwt_626 : mj_tg 323 626 = true := mj_tg_r rfl rfl rfl
set_option maxRecDepth 1000000 in
theorem lwt_651 : mj_tg 323 651 = true := mj_tg_r rfl rfl rfl
set_option maxRecDepth 1000000 in
theorem lwt_699 : mj_tg 323 699 = true := mj_tg_r rfl rfl rfl
set_option maxRecDepth 1000000 in
theorem lwt_716 : mj_tg 323 716 = true := mj_tg_r rfl rfl rfl
set_option maxRecDepth 1000000 in
theorem lwt_719 : mj_tg 323 719 = true := mj_tg_r rfl rfl rfl
set_option maxRecDepth 1000000 in
theorem lwt_767 : mj_tg 323 767 = true := mj_tg_r rfl rfl rfl
set_option maxRecDepth 1000000 in
theorem lwt_784 : mj_tg 323 784 = true := mj_tg_r rfl rfl rfl
set_option maxRecDepth 1000000 in
theorem lwt_787 : mj_tg 323 787 = true := mj_tg_r rfl rfl rfl
set_option maxRecDepth 1000000 in
theorem lwt_823 : mj_tg 323 823 = true := mj_tg_r rfl rfl rfl
set_option maxRecDepth 1000000 in
theorem lwt_840 : mj_tg 323 840 = true := mj_tg_r rfl rfl rfl
set_option maxRecDepth 1000000 in
theorem lwt_843 : mj_tg 323 843 = true := mj_tg_r rfl rfl rfl
set_option maxRecDepth 1000000 in
theorem lwt_891 : mj_tg 323 891 = true := mj_tg_r rfl rfl rfl
set_option maxRecDepth 1000000 in
theorem lwt_908 : mj_tg 323 908 = true := mj_tg_r rfl rfl rfl
set_option maxRecDepth 1000000 in
theorem lwt_909 : mj_tg 323 909 = true := mj_tg_r rfl rfl rfl
set_option maxRecDepth 1000000 in
theorem lwt_915 : mj_tg 323 915 = true := mj_tg_r rfl rfl rfl
set_option maxRecDepth 1000000 in
theorem lwt_918 : mj_tg 323 918 = true := mj_tg_r rfl rfl rfl
set_option maxRecDepth 1000000 in
theorem lwt_931 : mj_tg 323 931 = true := mj_tg_r rfl rfl rfl
set_option maxRecDepth 1000000 in
theorem lwt_979 : mj_tg 323 979 = true := mj_tg_r rfl rfl rfl
set_option maxRecDepth 1000000 in
theorem lwt_996 : mj_tg 323 996 = true := mj_tg_r rfl rfl rfl
set_option maxRecDepth 1000000 in
theorem lwt_999 : mj_tg 323 999 = true := mj_tg_r rfl rfl rfl
set_option maxRecDepth 1000000 in
theorem lwt_1035 : mj_tg 323 1035 = true := mj_tg_r rfl rfl rfl
set_option maxRecDepth 1000000 in
theorem lwt_1052 : mj_tg 323 1052 = true := mj_tg_r rfl rfl rfl
set_option maxRecDepth 1000000 in
theorem lwt_1055 : mj_tg 323 1055 = true := mj_tg_r rfl rfl rfl
set_option maxRecDepth 1000000 in
theorem lwt_1091 : mj_tg 323 1091 = true := mj_tg_r rfl rfl rfl
set_option maxRecDepth 1000000 in
theorem lwt_1108 : mj_tg 323 1108 = true := mj_tg_r rfl rfl rfl
set_option maxRecDepth 1000000 in
theorem lwt_1111 : mj_tg 323 1111 = true := mj_tg_r rfl rfl rfl
set_option maxRecDepth 1000000 in
theorem lwt_1147 : mj_tg 323 1147 = true := mj_tg_r rfl rfl rfl
set_option maxRecDepth 1000000 in
theorem lwt_1164 : mj_tg 323 1164 = true := mj_tg_r rfl rfl rfl
set_option maxRecDepth 1000000 in
theorem lwt_1167 : mj_tg 323 1167 = true := mj_tg_r rfl rfl rfl
set_option maxRecDepth 1000000 in
theorem lwt_1203 : mj_tg 323 1203 = true := mj_tg_r rfl rfl rfl
set_option maxRecDepth 1000000 in
theorem lwt_1220 : mj_tg 323 1220 = true := mj_tg_r rfl rfl rfl
set_option maxRecDepth 1000000 in
theorem lwt_1223 : mj_tg 323 1223 = true := mj_tg_r rfl rfl rfl
set_option maxRecDepth 1000000 in
theorem lwt_1236 : mj_tg 323 1236 = true := mj_tg_r rfl rfl rfl
set_option maxRecDepth 1000000 in
theorem lwt_1249 : mj_tg 323 1249 = true := mj_tg_r rfl rfl rfl
set_option maxRecDepth 1000000 in
theorem lwt_1262 : mj_tg 323 1262 = true := mj_tg_r rfl rfl rfl
set_option maxRecDepth 1000000 in
theorem lwt_1298 : mj_tg 323 1298 = true := mj_tg_r rfl rfl rfl
set_option maxRecDepth 1000000 in
theorem lwt_1315 : mj_tg 323 1315 = true := mj_tg_r rfl rfl rfl
set_option maxRecDepth 1000000 in
theorem lwt_1318 : mj_tg 323 1318 = true := mj_tg_r rfl rfl rfl
set_option maxRecDepth 1000000 in
theorem lwt_1332 : mj_tg 323 1332 = true := mj_tg_r rfl rfl rfl
set_option maxRecDepth 1000000 in
theorem lwt_1368 : mj_tg 323 1368 = true := mj_tg_r rfl rfl rfl
set_option maxRecDepth 1000000 in
theorem lwt_1385 : mj_tg 323 1385 = true := mj_tg_r rfl rfl rfl
set_option maxRecDepth 1000000 in
theorem lwt_1388 : mj_tg 323 1388 = true := mj_tg_r rfl rfl rfl
set_option maxRecDepth 1000000 in
theorem lwt_1424 : mj_tg 323 1424 = true := mj_tg_r rfl rfl rfl
set_option maxRecDepth 1000000 in
theorem lwt_1441 : mj_tg 323 1441 = true := mj_tg_r rfl rfl rfl
set_option maxRecDepth 1000000 in
theorem lwt_1444 : mj_tg 323 1444 = true := mj_tg_r rfl rfl rfl
set_option maxRecDepth 1000000 in
theorem lwt_1504 : mj_tg 323 1504 = true := mj_tg_r rfl rfl rfl
set_option maxRecDepth 1000000 in
theorem lwt_1521 : mj_tg 323 1521 = true := mj_tg_r rfl rfl rfl
set_option maxRecDepth 1000000 in
theorem lwt_1524 : mj_tg 323 1524 = true := mj_tg_r rfl rfl rfl
set_option maxRecDepth 1000000 in
theorem lwt_1560 : mj_tg 323 1560 = true := mj_tg_r rfl rfl rfl
set_option maxRecDepth 1000000 in
theorem lwt_1577 : mj_tg 323 1577 = true := mj_tg_r rfl rfl rfl
set_option maxRecDepth 1000000 in
theorem lwt_1580 : mj_tg 323 1580 = true := mj_tg_r rfl rfl rfl
set_option maxRecDepth 1000000 in
theorem lwt_1640 : mj_tg 323 1640 = true := mj_tg_r rfl rfl rfl
set_option maxRecDepth 1000000 in
theorem lwt_1657 : mj_tg 323 1657 = true := mj_tg_r rfl rfl rfl
set_option maxRecDepth 1000000 in
theorem lwt_1660 : mj_tg 323 1660 = true := mj_tg_r rfl rfl rfl
set_option maxRecDepth 1000000 in
theorem lwt_1671 : mj_tg 323 1671 = true := mj_tg_r rfl rfl rfl
set_option maxRecDepth 1000000 in
theorem lwt_1707 : mj_tg 323 1707 = true := mj_tg_r rfl rfl rfl
set_option maxRecDepth 1000000 in
theorem lwt_1724 : mj_tg 323 1724 = true := mj_tg_r rfl rfl rfl
set_option maxRecDepth 1000000 in
theorem lwt_1727 : mj_tg 323 1727 = true := mj_tg_r rfl rfl rfl
set_option maxRecDepth 1000000 in
theorem lwt_1763 : mj_tg 323 1763 = true := mj_tg_r rfl rfl rfl
set_option maxRecDepth 1000000 in
theorem lwt_1780 : mj_tg 323 1780 = true := mj_tg_r rfl rfl rfl
set_option maxRecDepth 1000000 in
theorem lwt_1783 : mj_tg 323 1783 = true := mj_tg_r rfl rfl rfl
set_option maxRecDepth 1000000 in
theorem lwt_1831 : mj_tg 323 1831 = true := mj_tg_r rfl rfl rfl
set_option maxRecDepth 1000000 in
theorem lwt_1848 : mj_tg 323 1848 = true := mj_tg_r rfl rfl rfl
set_option maxRecDepth 1000000 in
theorem lwt_1851 : mj_tg 323 1851 = true := mj_tg_r rfl rfl rfl
set_option maxRecDepth 1000000 in
theorem lwt_1911 : mj_tg 323 1911 = true := mj_tg_r rfl rfl rfl
set_option maxRecDepth 1000000 in
theorem lwt_1928 : mj_tg 323 1928 = true := mj_tg_r rfl rfl rfl
set_option maxRecDepth 1000000 in
theorem lwt_1931 : mj_tg 323 1931 = true := mj_tg_r rfl rfl rfl
set_option maxRecDepth 1000000 in
theorem lwt_1944 : mj_tg 323 1944 = true := mj_tg_r rfl rfl rfl
set_option maxRecDepth 1000000 in
theorem lwt_2004 : mj_tg 323 2004 = true := mj_tg_r rfl rfl rfl
set_option maxRecDepth 1000000 in
theorem lwt_2021 : mj_tg 323 2021 = true := mj_tg_r rfl rfl rfl
set_option maxRecDepth 1000000 in
theorem lwt_2024 : mj_tg 323 2024 = true := mj_tg_r rfl rfl rfl
set_option maxRecDepth 1000000 in
theorem lwt_2072 : mj_tg 323 2072 = true := mj_tg_r rfl rfl rfl
set_option maxRecDepth 1000000 in
theorem lwt_2089 : mj_tg 323 2089 = true := mj_tg_r rfl rfl rfl
set_option maxRecDepth 1000000 in
theorem lwt_2092 : mj_tg 323 2092 = true := mj_tg_r rfl rfl rfl
set_option maxRecDepth 1000000 in
theorem lwt_2105 : mj_tg 323 2105 = true := mj_tg_r rfl rfl rfl
set_option maxRecDepth 1000000 in
theorem lwt_2141 : mj_tg 323 2141 = true := mj_tg_r rfl rfl rfl
set_option maxRecDepth 1000000 in
theorem lwt_2158 : mj_tg 323 2158 = true := mj_tg_r rfl rfl rfl
set_option maxRecDepth 1000000 in
theorem lwt_2161 : mj_tg 323 2161 = true := mj_tg_r rfl rfl rfl
set_option maxRecDepth 1000000 in
theorem lwt_2197 : mj_tg 323 2197 = true := mj_tg_r rfl rfl rfl
set_option maxRecDepth 1000000 in
theorem lwt_2214 : mj_tg 323 2214 = true := mj_tg_r rfl rfl rfl
set_option maxRecDepth 1000000 in
theorem lwt_2217 : mj_tg 323 2217 = true := mj_tg_r rfl rfl rfl
set_option maxRecDepth 1000000 in
theorem lwt_2230 : mj_tg 323 2230 = true := mj_tg_r rfl rfl rfl
set_option maxRecDepth 1000000 in
theorem lwt_2241 : mj_tg 323 2241 = true := mj_tg_r rfl rfl rfl
set_option maxRecDepth 1000000 in
theorem lwt_2254 : mj_tg 323 2254 = true := mj_tg_r rfl rfl rfl
set_option maxRecDepth 1000000 in
theorem lwt_2260 : mj_tg 323 2260 = true := mj_tg_r rfl rfl rfl
theorem lwt_all : ∀ t, (lw_tg.contains t) = true → mj_tg 323 t = true := by
  intro t h
  simp only [List.contains_iff_mem, lw_tg, List.mem_cons, List.not_mem_nil, or_false] at h
  rcases h with rfl | rfl | rfl | rfl | rfl | rfl | rfl | rfl | rfl | rfl | rfl | rfl | rfl | rfl | rfl | rfl | rfl | rfl | rfl | rfl | rfl | rfl | rfl | rfl | rfl | rfl | rfl | rfl | rfl | rfl | rfl | rfl | rfl | rfl | rfl | rfl | rfl | rfl | rfl | rfl | rfl | rfl | rfl | rfl | rfl | rfl | rfl | rfl | rfl | rfl | rfl | rfl | rfl | rfl | rfl | rfl | rfl | rfl | rfl | rfl | rfl | rfl | rfl | rfl | rfl | rfl | rfl | rfl | rfl | rfl | rfl | rfl | rfl | rfl | rfl | rfl | rfl | rfl | rfl | rfl | rfl | rfl | rfl | rfl | rfl | rfl | rfl | rfl | rfl | rfl | rfl | rfl | rfl | rfl | rfl | rfl | rfl | rfl | rfl | rfl | rfl | rfl | rfl | rfl
  · exact lwt_0
  · exact lwt_23
  · exact lwt_224
  · exact lwt_297
  · exact lwt_333
  · exact lwt_350
  · exact lwt_353
  · exact lwt_366
  · exact lwt_402
  · exact lwt_419
  · exact lwt_422
  · exact lwt_470
  · exact lwt_487
  · exact lwt_490
  · exact lwt_538
  · exact lwt_555
  · exact lwt_558
  · exact lwt_606
  · exact lwt_623
  · exact lwt_626
  · exact lwt_651
  · exact lwt_699
  · exact lwt_716
  · exact lwt_719
  · exact lwt_767
  · exact lwt_784
  · exact lwt_787
  · exact lwt_823
  · exact lwt_840
  · exact lwt_843
  · exact lwt_891
  · exact lwt_908
  · exact lwt_909
  · exact lwt_915
  · exact lwt_918
  · exact lwt_931
  · exact lwt_979
  · exact lwt_996
  · exact lwt_999
  · exact lwt_1035
  · exact lwt_1052
  · exact lwt_1055
  · exact lwt_1091
  · exact lwt_1108
  · exact lwt_1111
  · exact lwt_1147
  · exact lwt_1164
  · exact lwt_1167
  · exact lwt_1203
  · exact lwt_1220
  · exact lwt_1223
  · exact lwt_1236
  · exact lwt_1249
  · exact lwt_1262
  · exact lwt_1298
  · exact lwt_1315
  · exact lwt_1318
  · exact lwt_1332
  · exact lwt_1368
  · exact lwt_1385
  · exact lwt_1388
  · exact lwt_1424
  · exact lwt_1441
  · exact lwt_1444
  · exact lwt_1504
  · exact lwt_1521
  · exact lwt_1524
  · exact lwt_1560
  · exact lwt_1577
  · exact lwt_1580
  · exact lwt_1640
  · exact lwt_1657
  · exact lwt_1660
  · exact lwt_1671
  · exact lwt_1707
  · exact lwt_1724
  · exact lwt_1727
  · exact lwt_1763
  · exact lwt_1780
  · exact lwt_1783
  · exact lwt_1831
  · exact lwt_1848
  · exact lwt_1851
  · exact lwt_1911
  · exact lwt_1928
  · exact lwt_1931
  · exact lwt_1944
  · exact lwt_2004
  · exact lwt_2021
  · exact lwt_2024
  · exact lwt_2072
  · exact lwt_2089
  · exact lwt_2092
  · exact lwt_2105
  · exact lwt_2141
  · exact lwt_2158
  · exact lwt_2161
  · exact lwt_2197
  · exact lwt_2214
  · exact lwt_2217
  · exact lwt_2230
  · exact lwt_2241
  · exact lwt_2254
  · exact lwt_2260
