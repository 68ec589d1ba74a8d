theorem lwb_1236 : mj_ckN (fun t => lw_tg.contains t) 323 7 k323_1236 = true := by decide +kernel
theorem lwc_1236 : mj_ckL 323 k323_1236 = true := mj_ckN_ok lwt_all lwb_1236 lwc_1249
theorem lwb_1223 : mj_ckN (fun t => lw_tg.contains t) 323 7 k323_1223 = true := by decide +kernel
theorem lwc_1223 : mj_ckL 323 k323_1223 = true := mj_ckN_ok lwt_all lwb_1223 lwc_1236
theorem lwb_1220 : mj_ckN (fun t => lw_tg.contains t) 323 1 k323_1220 = true := by decide +kernel
theorem lwc_1220 : mj_ckL 323 k323_1220 = true := mj_ckN_ok lwt_all lwb_1220 lwc_1223
theorem lwb_1203 : mj_ckN (fun t => lw_tg.contains t) 323 11 k323_1203 = true := by decide +kernel
theorem lwc_1203 : mj_ckL 323 k323_1203 = true := mj_ckN_ok lwt_all lwb_1203 lwc_1220
theorem lwb_1167 : mj_ckN (fun t => lw_tg.contains t) 323 23 k323_1167 = true := by decide +kernel
theorem lwc_1167 : mj_ckL 323 k323_1167 = true := mj_ckN_ok lwt_all lwb_1167 lwc_1203
theorem lwb_1164 : mj_ckN (fun t => lw_tg.contains t) 323 1 k323_1164 = true := by decide +kernel
theorem lwc_1164 : mj_ckL 323 k323_1164 = true := mj_ckN_ok lwt_all lwb_1164 lwc_1167
theorem lwb_1147 : mj_ckN (fun t => lw_tg.contains t) 323 11 k323_1147 = true := by decide +kernel
theorem lwc_1147 : mj_ckL 323 k323_1147 = true := mj_ckN_ok lwt_all lwb_1147 lwc_1164
theorem lwb_1111 : mj_ckN (fun t => lw_tg.contains t) 323 23 k323_1111 = true := by decide +kernel
theorem lwc_1111 : mj_ckL 323 k323_1111 = true := mj_ckN_ok lwt_all lwb_1111 lwc_1147
theorem lwb_1108 : mj_ckN (fun t => lw_tg.contains t) 323 1 k323_1108 = true := by decide +kernel
theorem lwc_1108 : mj_ckL 323 k323_1108 = true := mj_ckN_ok lwt_all lwb_1108 lwc_1111
theorem lwb_1091 : mj_ckN (fun t => lw_tg.contains t) 323 11 k323_1091 = true := by decide +kernel
theorem lwc_1091 : mj_ckL 323 k323_1091 = true := mj_ckN_ok lwt_all lwb_1091 lwc_1108
theorem lwb_1055 : mj_ckN (fun t => lw_tg.contains t) 323 23 k323_1055 = true := by decide +kernel
theorem lwc_1055 : mj_ckL 323 k323_1055 = true := mj_ckN_ok lwt_all lwb_1055 lwc_1091
theorem lwb_1052 : mj_ckN (fun t => lw_tg.contains t) 323 1 k323_1052 = true := by decide +kernel
theorem lwc_1052 : mj_ckL 323 k323_1052 = true := mj_ckN_ok lwt_all lwb_1052 lwc_1055
theorem lwb_1035 : mj_ckN (fun t => lw_tg.contains t) 323 11 k323_1035 = true := by decide +kernel
theorem lwc_1035 : mj_ckL 323 k323_1035 = true := mj_ckN_ok lwt_all lwb_1035 lwc_1052
theorem lwb_999 : mj_ckN (fun t => lw_tg.contains t) 323 23 k323_999 = true := by decide +kernel
theorem lwc_999 : mj_ckL 323 k323_999 = true := mj_ckN_ok lwt_all lwb_999 lwc_1035
theorem lwb_996 : mj_ckN (fun t => lw_tg.contains t) 323 1 k323_996 = true := by decide +kernel
theorem lwc_996 : mj_ckL 323 k323_996 = true := mj_ckN_ok lwt_all lwb_996 lwc_999
theorem lwb_979 : mj_ckN (fun t => lw_tg.contains t) 323 11 k323_979 = true := by decide +kernel
theorem lwc_979 : mj_ckL 323 k323_979 = true := mj_ckN_ok lwt_all lwb_979 lwc_996
theorem lwb_931 : mj_ckN (fun t => lw_tg.contains t) 323 33 k323_931 = true := by decide +kernel
theorem lwc_931 : mj_ckL 323 k323_931 = true := mj_ckN_ok lwt_all lwb_931 lwc_979
theorem lwb_918 : mj_ckN (fun t => lw_tg.contains t) 323 7 k323_918 = true := by decide +kernel
theorem lwc_918 : mj_ckL 323 k323_918 = true := mj_ckN_ok lwt_all lwb_918 lwc_931
theorem lwb_915 : mj_ckN (fun t => lw_tg.contains t) 323 1 k323_915 = true := by decide +kernel
theorem lwc_915 : mj_ckL 323 k323_915 = true := mj_ckN_ok lwt_all lwb_915 lwc_918
theorem lwb_909 : mj_ckN (fun t => lw_tg.contains t) 323 4 k323_909 = true := by decide +kernel
theorem lwc_909 : mj_ckL 323 k323_909 = true := mj_ckN_ok lwt_all lwb_909 lwc_915
theorem lwb_908 : mj_ckN (fun t => lw_tg.contains t) 323 1 k323_908 = true := by decide +kernel
theorem lwc_908 : mj_ckL 323 k323_908 = true := mj_ckN_ok lwt_all lwb_908 lwc_909
theorem lwb_891 : mj_ckN (fun t => lw_tg.contains t) 323 9 k323_891 = true := by decide +kernel
theorem lwc_891 : mj_ckL 323 k323_891 = true := mj_ckN_ok lwt_all lwb_891 lwc_908
theorem lwb_843 : mj_ckN (fun t => lw_tg.contains t) 323 33 k323_843 = true := by decide +kernel
theorem lwc_843 : mj_ckL 323 k323_843 = true := mj_ckN_ok lwt_all lwb_843 lwc_891
theorem lwb_840 : mj_ckN (fun t => lw_tg.contains t) 323 1 k323_840 = true := by decide +kernel
theorem lwc_840 : mj_ckL 323 k323_840 = true := mj_ckN_ok lwt_all lwb_840 lwc_843
theorem lwb_823 : mj_ckN (fun t => lw_tg.contains t) 323 11 k323_823 = true := by decide +kernel
theorem lwc_823 : mj_ckL 323 k323_823 = true := mj_ckN_ok lwt_all lwb_823 lwc_840
theorem lwb_787 : mj_ckN (fun t => lw_tg.contains t) 323 23 k323_787 = true := by decide +kernel
theorem lwc_787 : mj_ckL 323 k323_787 = true := mj_ckN_ok lwt_all lwb_787 lwc_823
theorem lwb_784 : mj_ckN (fun t => lw_tg.contains t) 323 1 k323_784 = true := by decide +kernel
theorem lwc_784 : mj_ckL 323 k323_784 = true := mj_ckN_ok lwt_all lwb_784 lwc_787
theorem lwb_767 : mj_ckN (fun t => lw_tg.contains t) 323 11 k323_767 = true := by decide +kernel
theorem lwc_767 : mj_ckL 323 k323_767 = true := mj_ckN_ok lwt_all lwb_767 lwc_784
theorem lwb_719 : mj_ckN (fun t => lw_tg.contains t) 323 33 k323_719 = true := by decide +kernel
theorem lwc_719 : mj_ckL 323 k323_719 = true := mj_ckN_ok lwt_all lwb_719 lwc_767
theorem lwb_716 : mj_ckN (fun t => lw_tg.contains t) 323 1 k323_716 = true := by decide +kernel
theorem lwc_716 : mj_ckL 323 k323_716 = true := mj_ckN_ok lwt_all lwb_716 lwc_719
theorem lwb_699 : mj_ckN (fun t => lw_tg.contains t) 323 11 k323_699 = true := by decide +kernel
theorem lwc_699 : mj_ckL 323 k323_699 = true := mj_ckN_ok lwt_all lwb_699 lwc_716
theorem lwb_651 : mj_ckN (fun t => lw_tg.contains t) 323 33 k323_651 = true := by decide +kernel
theorem lwc_651 : mj_ckL 323 k323_651 = true := mj_ckN_ok lwt_all lwb_651 lwc_699
theorem lwb_626 : mj_ckN (fun t => lw_tg.contains t) 323 17 k323_626 = true := by decide +kernel
theorem lwc_626 : mj_ckL 323 k323_626 = true := mj_ckN_ok lwt_all lwb_626 lwc_651
theorem lwb_623 : mj_ckN (fun t => lw_tg.contains t) 323 1 k323_623 = true := by decide +kernel
theorem lwc_623 : mj_ckL 323 k323_623 = true := mj_ckN_ok lwt_all lwb_623 lwc_626
theorem lwb_606 : mj_ckN (fun t => lw_tg.contains t) 323 11 k323_606 = true := by decide +kernel
theorem lwc_606 : mj_ckL 323 k323_606 = true := mj_ckN_ok lwt_all lwb_606 lwc_623
theorem lwb_558 : mj_ckN (fun t => lw_tg.contains t) 323 33 k323_558 = true := by decide +kernel
theorem lwc_558 : mj_ckL 323 k323_558 = true := mj_ckN_ok lwt_all lwb_558 lwc_606
theorem lwb_555 : mj_ckN (fun t => lw_tg.contains t) 323 1 k323_555 = true := by decide +kernel
theorem lwc_555 : mj_ckL 323 k323_555 = true := mj_ckN_ok lwt_all lwb_555 lwc_558
theorem lwb_538 : mj_ckN (fun t => lw_tg.contains t) 323 11 k323_538 = true := by decide +kernel
theorem lwc_538 : mj_ckL 323 k323_538 = true := mj_ckN_ok lwt_all lwb_538 lwc_555
theorem lwb_490 : mj_ckN (fun t => lw_tg.contains t) 323 33 k323_490 = true := by decide +kernel
theorem lwc_490 : mj_ckL 323 k323_490 = true := mj_ckN_ok lwt_all lwb_490 lwc_538
theorem lwb_487 : mj_ckN (fun t => lw_tg.contains t) 323 1 k323_487 = true := by decide +kernel
theorem lwc_487 : mj_ckL 323 k323_487 = true := mj_ckN_ok lwt_all lwb_487 lwc_490
theorem lwb_470 : mj_ckN (fun t => lw_tg.contains t) 323 11 k323_470 = true := by decide +kernel
theorem lwc_470 : mj_ckL 323 k323_470 = true := mj_ckN_ok lwt_all lwb_470 lwc_487
theorem lwb_422 : mj_ckN (fun t => lw_tg.contains t) 323 33 k323_422 = true := by decide +kernel
theorem lwc_422 : mj_ckL 323 k323_422 = true := mj_ckN_ok lwt_all lwb_422 lwc_470
theorem lwb_419 : mj_ckN (fun t => lw_tg.contains t) 323 1 k323_419 = true := by decide +kernel
theorem lwc_419 : mj_ckL 323 k323_419 = true := mj_ckN_ok lwt_all lwb_419 lwc_422
theorem lwb_402 : mj_ckN (fun t => lw_tg.contains t) 323 11 k323_402 = true := by decide +kernel
theorem lwc_402 : mj_ckL 323 k323_402 = true := mj_ckN_ok lwt_all lwb_402 lwc_419
theorem lwb_366 : mj_ckN (fun t => lw_tg.contains t) 323 23 k323_366 = true := by decide +kernel
theorem lwc_366 : mj_ckL 323 k323_366 = true := mj_ckN_ok lwt_all lwb_366 lwc_402
theorem lwb_353 : mj_ckN (fun t => lw_tg.contains t) 323 7 k323_353 = true := by decide +kernel
theorem lwc_353 : mj_ckL 323 k323_353 = true := mj_ckN_ok lwt_all lwb_353 lwc_366
theorem lwb_350 : mj_ckN (fun t => lw_tg.contains t) 323 1 k323_350 = true := by decide +kernel
theorem lwc_350 : mj_ckL 323 k323_350 = true := mj_ckN_ok lwt_all lwb_350 lwc_353
theorem lwb_333 : mj_ckN (fun t => lw_tg.contains t) 323 11 k323_333 = true := by decide +kernel
theorem lwc_333 : mj_ckL 323 k323_333 = true := mj_ckN_ok lwt_all lwb_333 lwc_350
theorem lwb_297 : mj_ckN (fun t => lw_tg.contains t) 323 23 k323_297 = true := by decide +kernel
theorem lwc_297 : mj_ckL 323 k323_297 = true := mj_ckN_ok lwt_all lwb_297 lwc_333
theorem lwb_224 : mj_ckN (fun t => lw_tg.contains t) 323 57 k323_224 = true := by decide +kernel
theorem lwc_224 : mj_ckL 323 k323_224 = true := mj_ckN_ok lwt_all lwb_224 lwc_297
theorem lwb_23 : mj_ckN (fun t => lw_tg.contains t) 323 12 k323_23 = true := by decide +kernel
theorem lwc_23 : mj_ckL 323 k323_23 = true := mj_ckN_ok lwt_all lwb_23 lwc_224
theorem lwb_0 : mj_ckN (fun t => lw_tg.contains t) 323 13 k323_0 = true := by decide +kernel
theorem lwc_0 : mj_ckL 323 k323_0 = true := mj_ckN_ok lwt_all lwb_0 lwc_23
theorem mj_okm_ok : mj_okm := by
  intro mm h
  rcases Nat.lt_or_ge mm 323 with q | q
  · exact mj_okb_ok (mj_okall mm q)
  · obtain rfl : mm = 323 := by omega
    exact ⟨lwc_0, rfl, by decide +kernel, by decide +kernel⟩
