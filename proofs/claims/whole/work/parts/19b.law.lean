theorem lwb_2260 : mj_ckN (fun t => lw_tg.contains t) 323 2 k323_2260 = true := by decide +kernel
theorem lwc_2260 : mj_ckL 323 k323_2260 = true := mj_ckN_ok lwt_all lwb_2260 rfl
theorem lwb_2254 : mj_ckN (fun t => lw_tg.contains t) 323 2 k323_2254 = true := by decide +kernel
theorem lwc_2254 : mj_ckL 323 k323_2254 = true := mj_ckN_ok lwt_all lwb_2254 lwc_2260
theorem lwb_2241 : mj_ckN (fun t => lw_tg.contains t) 323 7 k323_2241 = true := by decide +kernel
theorem lwc_2241 : mj_ckL 323 k323_2241 = true := mj_ckN_ok lwt_all lwb_2241 lwc_2254
theorem lwb_2230 : mj_ckN (fun t => lw_tg.contains t) 323 5 k323_2230 = true := by decide +kernel
theorem lwc_2230 : mj_ckL 323 k323_2230 = true := mj_ckN_ok lwt_all lwb_2230 lwc_2241
theorem lwb_2217 : mj_ckN (fun t => lw_tg.contains t) 323 7 k323_2217 = true := by decide +kernel
theorem lwc_2217 : mj_ckL 323 k323_2217 = true := mj_ckN_ok lwt_all lwb_2217 lwc_2230
theorem lwb_2214 : mj_ckN (fun t => lw_tg.contains t) 323 1 k323_2214 = true := by decide +kernel
theorem lwc_2214 : mj_ckL 323 k323_2214 = true := mj_ckN_ok lwt_all lwb_2214 lwc_2217
theorem lwb_2197 : mj_ckN (fun t => lw_tg.contains t) 323 11 k323_2197 = true := by decide +kernel
theorem lwc_2197 : mj_ckL 323 k323_2197 = true := mj_ckN_ok lwt_all lwb_2197 lwc_2214
theorem lwb_2161 : mj_ckN (fun t => lw_tg.contains t) 323 23 k323_2161 = true := by decide +kernel
theorem lwc_2161 : mj_ckL 323 k323_2161 = true := mj_ckN_ok lwt_all lwb_2161 lwc_2197
theorem lwb_2158 : mj_ckN (fun t => lw_tg.contains t) 323 1 k323_2158 = true := by decide +kernel
theorem lwc_2158 : mj_ckL 323 k323_2158 = true := mj_ckN_ok lwt_all lwb_2158 lwc_2161
theorem lwb_2141 : mj_ckN (fun t => lw_tg.contains t) 323 11 k323_2141 = true := by decide +kernel
theorem lwc_2141 : mj_ckL 323 k323_2141 = true := mj_ckN_ok lwt_all lwb_2141 lwc_2158
theorem lwb_2105 : mj_ckN (fun t => lw_tg.contains t) 323 23 k323_2105 = true := by decide +kernel
theorem lwc_2105 : mj_ckL 323 k323_2105 = true := mj_ckN_ok lwt_all lwb_2105 lwc_2141
theorem lwb_2092 : mj_ckN (fun t => lw_tg.contains t) 323 7 k323_2092 = true := by decide +kernel
theorem lwc_2092 : mj_ckL 323 k323_2092 = true := mj_ckN_ok lwt_all lwb_2092 lwc_2105
theorem lwb_2089 : mj_ckN (fun t => lw_tg.contains t) 323 1 k323_2089 = true := by decide +kernel
theorem lwc_2089 : mj_ckL 323 k323_2089 = true := mj_ckN_ok lwt_all lwb_2089 lwc_2092
theorem lwb_2072 : mj_ckN (fun t => lw_tg.contains t) 323 11 k323_2072 = true := by decide +kernel
theorem lwc_2072 : mj_ckL 323 k323_2072 = true := mj_ckN_ok lwt_all lwb_2072 lwc_2089
theorem lwb_2024 : mj_ckN (fun t => lw_tg.contains t) 323 33 k323_2024 = true := by decide +kernel
theorem lwc_2024 : mj_ckL 323 k323_2024 = true := mj_ckN_ok lwt_all lwb_2024 lwc_2072
theorem lwb_2021 : mj_ckN (fun t => lw_tg.contains t) 323 1 k323_2021 = true := by decide +kernel
theorem lwc_2021 : mj_ckL 323 k323_2021 = true := mj_ckN_ok lwt_all lwb_2021 lwc_2024
theorem lwb_2004 : mj_ckN (fun t => lw_tg.contains t) 323 11 k323_2004 = true := by decide +kernel
theorem lwc_2004 : mj_ckL 323 k323_2004 = true := mj_ckN_ok lwt_all lwb_2004 lwc_2021
theorem lwb_1944 : mj_ckN (fun t => lw_tg.contains t) 323 43 k323_1944 = true := by decide +kernel
theorem lwc_1944 : mj_ckL 323 k323_1944 = true := mj_ckN_ok lwt_all lwb_1944 lwc_2004
theorem lwb_1931 : mj_ckN (fun t => lw_tg.contains t) 323 7 k323_1931 = true := by decide +kernel
theorem lwc_1931 : mj_ckL 323 k323_1931 = true := mj_ckN_ok lwt_all lwb_1931 lwc_1944
theorem lwb_1928 : mj_ckN (fun t => lw_tg.contains t) 323 1 k323_1928 = true := by decide +kernel
theorem lwc_1928 : mj_ckL 323 k323_1928 = true := mj_ckN_ok lwt_all lwb_1928 lwc_1931
theorem lwb_1911 : mj_ckN (fun t => lw_tg.contains t) 323 11 k323_1911 = true := by decide +kernel
theorem lwc_1911 : mj_ckL 323 k323_1911 = true := mj_ckN_ok lwt_all lwb_1911 lwc_1928
theorem lwb_1851 : mj_ckN (fun t => lw_tg.contains t) 323 43 k323_1851 = true := by decide +kernel
theorem lwc_1851 : mj_ckL 323 k323_1851 = true := mj_ckN_ok lwt_all lwb_1851 lwc_1911
theorem lwb_1848 : mj_ckN (fun t => lw_tg.contains t) 323 1 k323_1848 = true := by decide +kernel
theorem lwc_1848 : mj_ckL 323 k323_1848 = true := mj_ckN_ok lwt_all lwb_1848 lwc_1851
theorem lwb_1831 : mj_ckN (fun t => lw_tg.contains t) 323 11 k323_1831 = true := by decide +kernel
theorem lwc_1831 : mj_ckL 323 k323_1831 = true := mj_ckN_ok lwt_all lwb_1831 lwc_1848
theorem lwb_1783 : mj_ckN (fun t => lw_tg.contains t) 323 33 k323_1783 = true := by decide +kernel
theorem lwc_1783 : mj_ckL 323 k323_1783 = true := mj_ckN_ok lwt_all lwb_1783 lwc_1831
theorem lwb_1780 : mj_ckN (fun t => lw_tg.contains t) 323 1 k323_1780 = true := by decide +kernel
theorem lwc_1780 : mj_ckL 323 k323_1780 = true := mj_ckN_ok lwt_all lwb_1780 lwc_1783
theorem lwb_1763 : mj_ckN (fun t => lw_tg.contains t) 323 11 k323_1763 = true := by decide +kernel
theorem lwc_1763 : mj_ckL 323 k323_1763 = true := mj_ckN_ok lwt_all lwb_1763 lwc_1780
theorem lwb_1727 : mj_ckN (fun t => lw_tg.contains t) 323 23 k323_1727 = true := by decide +kernel
theorem lwc_1727 : mj_ckL 323 k323_1727 = true := mj_ckN_ok lwt_all lwb_1727 lwc_1763
theorem lwb_1724 : mj_ckN (fun t => lw_tg.contains t) 323 1 k323_1724 = true := by decide +kernel
theorem lwc_1724 : mj_ckL 323 k323_1724 = true := mj_ckN_ok lwt_all lwb_1724 lwc_1727
theorem lwb_1707 : mj_ckN (fun t => lw_tg.contains t) 323 11 k323_1707 = true := by decide +kernel
theorem lwc_1707 : mj_ckL 323 k323_1707 = true := mj_ckN_ok lwt_all lwb_1707 lwc_1724
theorem lwb_1671 : mj_ckN (fun t => lw_tg.contains t) 323 23 k323_1671 = true := by decide +kernel
theorem lwc_1671 : mj_ckL 323 k323_1671 = true := mj_ckN_ok lwt_all lwb_1671 lwc_1707
theorem lwb_1660 : mj_ckN (fun t => lw_tg.contains t) 323 5 k323_1660 = true := by decide +kernel
theorem lwc_1660 : mj_ckL 323 k323_1660 = true := mj_ckN_ok lwt_all lwb_1660 lwc_1671
theorem lwb_1657 : mj_ckN (fun t => lw_tg.contains t) 323 1 k323_1657 = true := by decide +kernel
theorem lwc_1657 : mj_ckL 323 k323_1657 = true := mj_ckN_ok lwt_all lwb_1657 lwc_1660
theorem lwb_1640 : mj_ckN (fun t => lw_tg.contains t) 323 11 k323_1640 = true := by decide +kernel
theorem lwc_1640 : mj_ckL 323 k323_1640 = true := mj_ckN_ok lwt_all lwb_1640 lwc_1657
theorem lwb_1580 : mj_ckN (fun t => lw_tg.contains t) 323 43 k323_1580 = true := by decide +kernel
theorem lwc_1580 : mj_ckL 323 k323_1580 = true := mj_ckN_ok lwt_all lwb_1580 lwc_1640
theorem lwb_1577 : mj_ckN (fun t => lw_tg.contains t) 323 1 k323_1577 = true := by decide +kernel
theorem lwc_1577 : mj_ckL 323 k323_1577 = true := mj_ckN_ok lwt_all lwb_1577 lwc_1580
theorem lwb_1560 : mj_ckN (fun t => lw_tg.contains t) 323 11 k323_1560 = true := by decide +kernel
theorem lwc_1560 : mj_ckL 323 k323_1560 = true := mj_ckN_ok lwt_all lwb_1560 lwc_1577
theorem lwb_1524 : mj_ckN (fun t => lw_tg.contains t) 323 23 k323_1524 = true := by decide +kernel
theorem lwc_1524 : mj_ckL 323 k323_1524 = true := mj_ckN_ok lwt_all lwb_1524 lwc_1560
theorem lwb_1521 : mj_ckN (fun t => lw_tg.contains t) 323 1 k323_1521 = true := by decide +kernel
theorem lwc_1521 : mj_ckL 323 k323_1521 = true := mj_ckN_ok lwt_all lwb_1521 lwc_1524
theorem lwb_1504 : mj_ckN (fun t => lw_tg.contains t) 323 11 k323_1504 = true := by decide +kernel
theorem lwc_1504 : mj_ckL 323 k323_1504 = true := mj_ckN_ok lwt_all lwb_1504 lwc_1521
theorem lwb_1444 : mj_ckN (fun t => lw_tg.contains t) 323 43 k323_1444 = true := by decide +kernel
theorem lwc_1444 : mj_ckL 323 k323_1444 = true := mj_ckN_ok lwt_all lwb_1444 lwc_1504
theorem lwb_1441 : mj_ckN (fun t => lw_tg.contains t) 323 1 k323_1441 = true := by decide +kernel
theorem lwc_1441 : mj_ckL 323 k323_1441 = true := mj_ckN_ok lwt_all lwb_1441 lwc_1444
theorem lwb_1424 : mj_ckN (fun t => lw_tg.contains t) 323 11 k323_1424 = true := by decide +kernel
theorem lwc_1424 : mj_ckL 323 k323_1424 = true := mj_ckN_ok lwt_all lwb_1424 lwc_1441
theorem lwb_1388 : mj_ckN (fun t => lw_tg.contains t) 323 23 k323_1388 = true := by decide +kernel
theorem lwc_1388 : mj_ckL 323 k323_1388 = true := mj_ckN_ok lwt_all lwb_1388 lwc_1424
theorem lwb_1385 : mj_ckN (fun t => lw_tg.contains t) 323 1 k323_1385 = true := by decide +kernel
theorem lwc_1385 : mj_ckL 323 k323_1385 = true := mj_ckN_ok lwt_all lwb_1385 lwc_1388
theorem lwb_1368 : mj_ckN (fun t => lw_tg.contains t) 323 11 k323_1368 = true := by decide +kernel
theorem lwc_1368 : mj_ckL 323 k323_1368 = true := mj_ckN_ok lwt_all lwb_1368 lwc_1385
theorem lwb_1332 : mj_ckN (fun t => lw_tg.contains t) 323 23 k323_1332 = true := by decide +kernel
theorem lwc_1332 : mj_ckL 323 k323_1332 = true := mj_ckN_ok lwt_all lwb_1332 lwc_1368
theorem lwb_1318 : mj_ckN (fun t => lw_tg.contains t) 323 8 k323_1318 = true := by decide +kernel
theorem lwc_1318 : mj_ckL 323 k323_1318 = true := mj_ckN_ok lwt_all lwb_1318 lwc_1332
theorem lwb_1315 : mj_ckN (fun t => lw_tg.contains t) 323 1 k323_1315 = true := by decide +kernel
theorem lwc_1315 : mj_ckL 323 k323_1315 = true := mj_ckN_ok lwt_all lwb_1315 lwc_1318
theorem lwb_1298 : mj_ckN (fun t => lw_tg.contains t) 323 11 k323_1298 = true := by decide +kernel
theorem lwc_1298 : mj_ckL 323 k323_1298 = true := mj_ckN_ok lwt_all lwb_1298 lwc_1315
theorem lwb_1262 : mj_ckN (fun t => lw_tg.contains t) 323 23 k323_1262 = true := by decide +kernel
theorem lwc_1262 : mj_ckL 323 k323_1262 = true := mj_ckN_ok lwt_all lwb_1262 lwc_1298
theorem lwb_1249 : mj_ckN (fun t => lw_tg.contains t) 323 7 k323_1249 = true := by decide +kernel
theorem lwc_1249 : mj_ckL 323 k323_1249 = true := mj_ckN_ok lwt_all lwb_1249 lwc_1262
