set_option maxRecDepth 10000 in
theorem vX12_init_0 {l : Launch} {G : GT} {Q : Int → Sh → Mem → Prop} {d : Nat} {S : Sh} {V : Mem} {mc ms : Nat} {x0 : Int} (h : x0 ≠ 0 ∧ 1 ≤ d ∧ 0 ≤ (3000 : Int) ∧ (3000 : Int) ≤ 60000 ∧ 1 ≤ mc ∧ (3000 : Int).toNat ≤ ms ∧ (∀ (S1 : Sh) (V1 : Mem) (r1 : Int) (mc1 ms1 : Nat), r1 = S.2.2 + 1 → S1 = nw S 21 3000 → V1 = clr V r1 → mc1 = mc - 1 → ms1 = ms - (3000 : Int).toNat → S1.1 x0 = 13 ∧ 0 ≤ (30000 : Int) ∧ (30000 : Int) ≤ 60000 ∧ 1 ≤ mc1 ∧ (30000 : Int).toNat ≤ ms1 ∧ (∀ (S3 : Sh) (V3 : Mem) (r3 : Int) (mc3 ms3 : Nat), r3 = S1.2.2 + 1 → S3 = nw S1 21 30000 → V3 = clr (up V1 x0 1 r1) r3 → mc3 = mc1 - 1 → ms3 = ms1 - (30000 : Int).toNat → S3.1 x0 = 13 ∧ 0 ≤ (10 : Int) ∧ (10 : Int) ≤ 60000 ∧ 1 ≤ mc3 ∧ (10 : Int).toNat ≤ ms3 ∧ (∀ (S5 : Sh) (V5 : Mem) (r5 : Int) (mc5 ms5 : Nat), r5 = S3.2.2 + 1 → S5 = nw S3 20 10 → V5 = clr (up V3 x0 7 r3) r5 → mc5 = mc3 - 1 → ms5 = ms3 - (10 : Int).toNat → S5.1 x0 = 13 ∧ 0 ≤ (10 : Int) ∧ (10 : Int) ≤ 60000 ∧ 1 ≤ mc5 ∧ (10 : Int).toNat ≤ ms5 ∧ (∀ (S7 : Sh) (V7 : Mem) (r7 : Int) (mc7 ms7 : Nat), r7 = S5.2.2 + 1 → S7 = nw S5 20 10 → V7 = clr (up V5 x0 10 r5) r7 → mc7 = mc5 - 1 → ms7 = ms5 - (10 : Int).toNat → S7.1 x0 = 13 ∧ 0 ≤ (40 : Int) ∧ (40 : Int) ≤ 60000 ∧ 1 ≤ mc7 ∧ (40 : Int).toNat ≤ ms7 ∧ (∀ (S9 : Sh) (V9 : Mem) (r9 : Int) (mc9 ms9 : Nat), r9 = S7.2.2 + 1 → S9 = nw S7 20 40 → V9 = clr (up V7 x0 11 r7) r9 → mc9 = mc7 - 1 → ms9 = ms7 - (40 : Int).toNat → S9.1 x0 = 13 ∧ 0 ≤ (120 : Int) ∧ (120 : Int) ≤ 60000 ∧ 1 ≤ mc9 ∧ (120 : Int).toNat ≤ ms9 ∧ (∀ (S11 : Sh) (V11 : Mem) (r11 : Int) (mc11 ms11 : Nat), r11 = S9.2.2 + 1 → S11 = nw S9 20 120 → V11 = clr (up V9 x0 12 r9) r11 → mc11 = mc9 - 1 → ms11 = ms9 - (120 : Int).toNat → S11.1 x0 = 13 ∧ 0 ≤ (120 : Int) ∧ (120 : Int) ≤ 60000 ∧ 1 ≤ mc11 ∧ (120 : Int).toNat ≤ ms11 ∧ (∀ (S13 : Sh) (V13 : Mem) (r13 : Int) (mc13 ms13 : Nat), r13 = S11.2.2 + 1 → S13 = nw S11 20 120 → V13 = clr (up V11 x0 13 r11) r13 → mc13 = mc11 - 1 → ms13 = ms11 - (120 : Int).toNat → S13.1 x0 = 13 ∧ 0 ≤ (120 : Int) ∧ (120 : Int) ≤ 60000 ∧ 1 ≤ mc13 ∧ (120 : Int).toNat ≤ ms13 ∧ (∀ (S15 : Sh) (V15 : Mem) (r15 : Int) (mc15 ms15 : Nat), r15 = S13.2.2 + 1 → S15 = nw S13 20 120 → V15 = clr (up V13 x0 14 r13) r15 → mc15 = mc13 - 1 → ms15 = ms13 - (120 : Int).toNat → S15.1 x0 = 13 ∧ 0 ≤ (120 : Int) ∧ (120 : Int) ≤ 60000 ∧ 1 ≤ mc15 ∧ (120 : Int).toNat ≤ ms15 ∧ (∀ (S17 : Sh) (V17 : Mem) (r17 : Int) (mc17 ms17 : Nat), r17 = S15.2.2 + 1 → S17 = nw S15 20 120 → V17 = clr (up V15 x0 15 r15) r17 → mc17 = mc15 - 1 → ms17 = ms15 - (120 : Int).toNat → S17.1 x0 = 13 ∧ 0 ≤ (120 : Int) ∧ (120 : Int) ≤ 60000 ∧ 1 ≤ mc17 ∧ (120 : Int).toNat ≤ ms17 ∧ (∀ (S19 : Sh) (V19 : Mem) (r19 : Int) (mc19 ms19 : Nat), r19 = S17.2.2 + 1 → S19 = nw S17 20 120 → V19 = clr (up V17 x0 16 r17) r19 → mc19 = mc17 - 1 → ms19 = ms17 - (120 : Int).toNat → S19.1 x0 = 13 ∧ 0 ≤ (120 : Int) ∧ (120 : Int) ≤ 60000 ∧ 1 ≤ mc19 ∧ (120 : Int).toNat ≤ ms19 ∧ (∀ (S21 : Sh) (V21 : Mem) (r21 : Int) (mc21 ms21 : Nat), r21 = S19.2.2 + 1 → S21 = nw S19 20 120 → V21 = clr (up V19 x0 17 r19) r21 → mc21 = mc19 - 1 → ms21 = ms19 - (120 : Int).toNat → S21.1 x0 = 13 ∧ 0 ≤ (480 : Int) ∧ (480 : Int) ≤ 60000 ∧ 1 ≤ mc21 ∧ (480 : Int).toNat ≤ ms21 ∧ (∀ (S23 : Sh) (V23 : Mem) (r23 : Int) (mc23 ms23 : Nat), r23 = S21.2.2 + 1 → S23 = nw S21 20 480 → V23 = clr (up V21 x0 18 r21) r23 → mc23 = mc21 - 1 → ms23 = ms21 - (480 : Int).toNat → S23.1 x0 = 13 ∧ 0 ≤ (2880 : Int) ∧ (2880 : Int) ≤ 60000 ∧ 1 ≤ mc23 ∧ (2880 : Int).toNat ≤ ms23 ∧ (∀ (S25 : Sh) (V25 : Mem) (r25 : Int) (mc25 ms25 : Nat), r25 = S23.2.2 + 1 → S25 = nw S23 20 2880 → V25 = clr (up V23 x0 19 r23) r25 → mc25 = mc23 - 1 → ms25 = ms23 - (2880 : Int).toNat → S25.1 x0 = 13 ∧ 0 ≤ (2880 : Int) ∧ (2880 : Int) ≤ 60000 ∧ 1 ≤ mc25 ∧ (2880 : Int).toNat ≤ ms25 ∧ (∀ (S27 : Sh) (V27 : Mem) (r27 : Int) (mc27 ms27 : Nat), r27 = S25.2.2 + 1 → S27 = nw S25 20 2880 → V27 = clr (up V25 x0 20 r25) r27 → mc27 = mc25 - 1 → ms27 = ms25 - (2880 : Int).toNat → S27.1 x0 = 13 ∧ 0 ≤ (11520 : Int) ∧ (11520 : Int) ≤ 60000 ∧ 1 ≤ mc27 ∧ (11520 : Int).toNat ≤ ms27 ∧ (∀ (S29 : Sh) (V29 : Mem) (r29 : Int) (mc29 ms29 : Nat), r29 = S27.2.2 + 1 → S29 = nw S27 20 11520 → V29 = clr (up V27 x0 21 r27) r29 → mc29 = mc27 - 1 → ms29 = ms27 - (11520 : Int).toNat → S29.1 x0 = 13 ∧ 0 ≤ (480 : Int) ∧ (480 : Int) ≤ 60000 ∧ 1 ≤ mc29 ∧ (480 : Int).toNat ≤ ms29 ∧ (∀ (S31 : Sh) (V31 : Mem) (r31 : Int) (mc31 ms31 : Nat), r31 = S29.2.2 + 1 → S31 = nw S29 20 480 → V31 = clr (up V29 x0 22 r29) r31 → mc31 = mc29 - 1 → ms31 = ms29 - (480 : Int).toNat → S31.1 x0 = 13 ∧ 0 ≤ (480 : Int) ∧ (480 : Int) ≤ 60000 ∧ 1 ≤ mc31 ∧ (480 : Int).toNat ≤ ms31 ∧ (∀ (S33 : Sh) (V33 : Mem) (r33 : Int) (mc33 ms33 : Nat), r33 = S31.2.2 + 1 → S33 = nw S31 20 480 → V33 = clr (up V31 x0 23 r31) r33 → mc33 = mc31 - 1 → ms33 = ms31 - (480 : Int).toNat → S33.1 x0 = 13 ∧ 0 ≤ (5760 : Int) ∧ (5760 : Int) ≤ 60000 ∧ 1 ≤ mc33 ∧ (5760 : Int).toNat ≤ ms33 ∧ (∀ (S35 : Sh) (V35 : Mem) (r35 : Int) (mc35 ms35 : Nat), r35 = S33.2.2 + 1 → S35 = nw S33 20 5760 → V35 = clr (up V33 x0 24 r33) r35 → mc35 = mc33 - 1 → ms35 = ms33 - (5760 : Int).toNat → S35.1 x0 = 13 ∧ 0 ≤ (360 : Int) ∧ (360 : Int) ≤ 60000 ∧ 1 ≤ mc35 ∧ (360 : Int).toNat ≤ ms35 ∧ (∀ (S37 : Sh) (V37 : Mem) (r37 : Int) (mc37 ms37 : Nat), r37 = S35.2.2 + 1 → S37 = nw S35 20 360 → V37 = clr (up V35 x0 25 r35) r37 → mc37 = mc35 - 1 → ms37 = ms35 - (360 : Int).toNat → S37.1 x0 = 13 ∧ 0 ≤ (480 : Int) ∧ (480 : Int) ≤ 60000 ∧ 1 ≤ mc37 ∧ (480 : Int).toNat ≤ ms37 ∧ (∀ (S39 : Sh) (V39 : Mem) (r39 : Int) (mc39 ms39 : Nat), r39 = S37.2.2 + 1 → S39 = nw S37 20 480 → V39 = clr (up V37 x0 26 r37) r39 → mc39 = mc37 - 1 → ms39 = ms37 - (480 : Int).toNat → S39.1 x0 = 13 ∧ 0 ≤ (480 : Int) ∧ (480 : Int) ≤ 60000 ∧ 1 ≤ mc39 ∧ (480 : Int).toNat ≤ ms39 ∧ (∀ (S41 : Sh) (V41 : Mem) (r41 : Int) (mc41 ms41 : Nat), r41 = S39.2.2 + 1 → S41 = nw S39 20 480 → V41 = clr (up V39 x0 27 r39) r41 → mc41 = mc39 - 1 → ms41 = ms39 - (480 : Int).toNat → S41.1 x0 = 13 ∧ 0 ≤ (360 : Int) ∧ (360 : Int) ≤ 60000 ∧ 1 ≤ mc41 ∧ (360 : Int).toNat ≤ ms41 ∧ (∀ (S43 : Sh) (V43 : Mem) (r43 : Int) (mc43 ms43 : Nat), r43 = S41.2.2 + 1 → S43 = nw S41 20 360 → V43 = clr (up V41 x0 28 r41) r43 → mc43 = mc41 - 1 → ms43 = ms41 - (360 : Int).toNat → S43.1 x0 = 13 ∧ 0 ≤ (360 : Int) ∧ (360 : Int) ≤ 60000 ∧ 1 ≤ mc43 ∧ (360 : Int).toNat ≤ ms43 ∧ (∀ (S45 : Sh) (V45 : Mem) (r45 : Int) (mc45 ms45 : Nat), r45 = S43.2.2 + 1 → S45 = nw S43 20 360 → V45 = clr (up V43 x0 29 r43) r45 → mc45 = mc43 - 1 → ms45 = ms43 - (360 : Int).toNat → S45.1 x0 = 13 ∧ 0 ≤ (4320 : Int) ∧ (4320 : Int) ≤ 60000 ∧ 1 ≤ mc45 ∧ (4320 : Int).toNat ≤ ms45 ∧ (∀ (S47 : Sh) (V47 : Mem) (r47 : Int) (mc47 ms47 : Nat), r47 = S45.2.2 + 1 → S47 = nw S45 20 4320 → V47 = clr (up V45 x0 30 r45) r47 → mc47 = mc45 - 1 → ms47 = ms45 - (4320 : Int).toNat → S47.1 x0 = 13 ∧ 0 ≤ (4320 : Int) ∧ (4320 : Int) ≤ 60000 ∧ 1 ≤ mc47 ∧ (4320 : Int).toNat ≤ ms47 ∧ (∀ (S49 : Sh) (V49 : Mem) (r49 : Int) (mc49 ms49 : Nat), r49 = S47.2.2 + 1 → S49 = nw S47 20 4320 → V49 = clr (up V47 x0 31 r47) r49 → mc49 = mc47 - 1 → ms49 = ms47 - (4320 : Int).toNat → S49.1 x0 = 13 ∧ 0 ≤ (4320 : Int) ∧ (4320 : Int) ≤ 60000 ∧ 1 ≤ mc49 ∧ (4320 : Int).toNat ≤ ms49 ∧ (∀ (S51 : Sh) (V51 : Mem) (r51 : Int) (mc51 ms51 : Nat), r51 = S49.2.2 + 1 → S51 = nw S49 20 4320 → V51 = clr (up V49 x0 32 r49) r51 → mc51 = mc49 - 1 → ms51 = ms49 - (4320 : Int).toNat → S51.1 x0 = 13 ∧ 0 ≤ (360 : Int) ∧ (360 : Int) ≤ 60000 ∧ 1 ≤ mc51 ∧ (360 : Int).toNat ≤ ms51 ∧ (∀ (S53 : Sh) (V53 : Mem) (r53 : Int) (mc53 ms53 : Nat), r53 = S51.2.2 + 1 → S53 = nw S51 20 360 → V53 = clr (up V51 x0 33 r51) r53 → mc53 = mc51 - 1 → ms53 = ms51 - (360 : Int).toNat → S53.1 x0 = 13 ∧ 0 ≤ (31000 : Int) ∧ (31000 : Int) ≤ 60000 ∧ 1 ≤ mc53 ∧ (31000 : Int).toNat ≤ ms53 ∧ (∀ (S55 : Sh) (V55 : Mem) (r55 : Int) (mc55 ms55 : Nat), r55 = S53.2.2 + 1 → S55 = nw S53 20 31000 → V55 = clr (up V53 x0 34 r53) r55 → mc55 = mc53 - 1 → ms55 = ms53 - (31000 : Int).toNat → S55.1 x0 = 13 ∧ 0 ≤ (31000 : Int) ∧ (31000 : Int) ≤ 60000 ∧ 1 ≤ mc55 ∧ (31000 : Int).toNat ≤ ms55 ∧ (∀ (S57 : Sh) (V57 : Mem) (r57 : Int) (mc57 ms57 : Nat), r57 = S55.2.2 + 1 → S57 = nw S55 20 31000 → V57 = clr (up V55 x0 35 r55) r57 → mc57 = mc55 - 1 → ms57 = ms55 - (31000 : Int).toNat → S57.1 x0 = 13 ∧ 0 ≤ (31000 : Int) ∧ (31000 : Int) ≤ 60000 ∧ 1 ≤ mc57 ∧ (31000 : Int).toNat ≤ ms57 ∧ (∀ (S59 : Sh) (V59 : Mem) (r59 : Int) (mc59 ms59 : Nat), r59 = S57.2.2 + 1 → S59 = nw S57 20 31000 → V59 = clr (up V57 x0 36 r57) r59 → mc59 = mc57 - 1 → ms59 = ms57 - (31000 : Int).toNat → S59.1 x0 = 13 ∧ 0 ≤ (31000 : Int) ∧ (31000 : Int) ≤ 60000 ∧ 1 ≤ mc59 ∧ (31000 : Int).toNat ≤ ms59 ∧ (∀ (S61 : Sh) (V61 : Mem) (r61 : Int) (mc61 ms61 : Nat), r61 = S59.2.2 + 1 → S61 = nw S59 20 31000 → V61 = clr (up V59 x0 37 r59) r61 → mc61 = mc59 - 1 → ms61 = ms59 - (31000 : Int).toNat → S61.1 x0 = 13 ∧ 0 ≤ (31000 : Int) ∧ (31000 : Int) ≤ 60000 ∧ 1 ≤ mc61 ∧ (31000 : Int).toNat ≤ ms61 ∧ (∀ (S63 : Sh) (V63 : Mem) (r63 : Int) (mc63 ms63 : Nat), r63 = S61.2.2 + 1 → S63 = nw S61 20 31000 → V63 = clr (up V61 x0 38 r61) r63 → mc63 = mc61 - 1 → ms63 = ms61 - (31000 : Int).toNat → S63.1 x0 = 13 ∧ 0 ≤ (3100 : Int) ∧ (3100 : Int) ≤ 60000 ∧ 1 ≤ mc63 ∧ (3100 : Int).toNat ≤ ms63 ∧ (∀ (S65 : Sh) (V65 : Mem) (r65 : Int) (mc65 ms65 : Nat), r65 = S63.2.2 + 1 → S65 = nw S63 20 3100 → V65 = clr (up V63 x0 39 r63) r65 → mc65 = mc63 - 1 → ms65 = ms63 - (3100 : Int).toNat → S65.1 x0 = 13 ∧ 0 ≤ (3100 : Int) ∧ (3100 : Int) ≤ 60000 ∧ 1 ≤ mc65 ∧ (3100 : Int).toNat ≤ ms65 ∧ (∀ (S67 : Sh) (V67 : Mem) (r67 : Int) (mc67 ms67 : Nat), r67 = S65.2.2 + 1 → S67 = nw S65 20 3100 → V67 = clr (up V65 x0 48 r65) r67 → mc67 = mc65 - 1 → ms67 = ms65 - (3100 : Int).toNat → S67.1 x0 = 13 ∧ 0 ≤ (3100 : Int) ∧ (3100 : Int) ≤ 60000 ∧ 1 ≤ mc67 ∧ (3100 : Int).toNat ≤ ms67 ∧ (∀ (S69 : Sh) (V69 : Mem) (r69 : Int) (mc69 ms69 : Nat), r69 = S67.2.2 + 1 → S69 = nw S67 20 3100 → V69 = clr (up V67 x0 49 r67) r69 → mc69 = mc67 - 1 → ms69 = ms67 - (3100 : Int).toNat → S69.1 x0 = 13 ∧ 0 ≤ (1600 : Int) ∧ (1600 : Int) ≤ 60000 ∧ 1 ≤ mc69 ∧ (1600 : Int).toNat ≤ ms69 ∧ (∀ (S71 : Sh) (V71 : Mem) (r71 : Int) (mc71 ms71 : Nat), r71 = S69.2.2 + 1 → S71 = nw S69 20 1600 → V71 = clr (up V69 x0 50 r69) r71 → mc71 = mc69 - 1 → ms71 = ms69 - (1600 : Int).toNat → S71.1 x0 = 13 ∧ 0 ≤ (120 : Int) ∧ (120 : Int) ≤ 60000 ∧ 1 ≤ mc71 ∧ (120 : Int).toNat ≤ ms71 ∧ (∀ (S73 : Sh) (V73 : Mem) (r73 : Int) (mc73 ms73 : Nat), r73 = S71.2.2 + 1 → S73 = nw S71 20 120 → V73 = clr (up V71 x0 52 r71) r73 → mc73 = mc71 - 1 → ms73 = ms71 - (120 : Int).toNat → S73.1 x0 = 13 ∧ 0 ≤ (2880 : Int) ∧ (2880 : Int) ≤ 60000 ∧ 1 ≤ mc73 ∧ (2880 : Int).toNat ≤ ms73 ∧ (∀ (S75 : Sh) (V75 : Mem) (r75 : Int) (mc75 ms75 : Nat), r75 = S73.2.2 + 1 → S75 = nw S73 20 2880 → V75 = clr (up V73 x0 53 r73) r75 → mc75 = mc73 - 1 → ms75 = ms73 - (2880 : Int).toNat → S75.1 x0 = 13 ∧ 0 ≤ (480 : Int) ∧ (480 : Int) ≤ 60000 ∧ 1 ≤ mc75 ∧ (480 : Int).toNat ≤ ms75 ∧ (∀ (S77 : Sh) (V77 : Mem) (r77 : Int) (mc77 ms77 : Nat), r77 = S75.2.2 + 1 → S77 = nw S75 20 480 → V77 = clr (up V75 x0 54 r75) r77 → mc77 = mc75 - 1 → ms77 = ms75 - (480 : Int).toNat → S77.1 x0 = 13 ∧ 0 ≤ (5760 : Int) ∧ (5760 : Int) ≤ 60000 ∧ 1 ≤ mc77 ∧ (5760 : Int).toNat ≤ ms77 ∧ (∀ (S79 : Sh) (V79 : Mem) (r79 : Int) (mc79 ms79 : Nat), r79 = S77.2.2 + 1 → S79 = nw S77 20 5760 → V79 = clr (up V77 x0 55 r77) r79 → mc79 = mc77 - 1 → ms79 = ms77 - (5760 : Int).toNat → S79.1 x0 = 13 ∧ 0 ≤ (480 : Int) ∧ (480 : Int) ≤ 60000 ∧ 1 ≤ mc79 ∧ (480 : Int).toNat ≤ ms79 ∧ (∀ (S81 : Sh) (V81 : Mem) (r81 : Int) (mc81 ms81 : Nat), r81 = S79.2.2 + 1 → S81 = nw S79 20 480 → V81 = clr (up V79 x0 56 r79) r81 → mc81 = mc79 - 1 → ms81 = ms79 - (480 : Int).toNat → S81.1 x0 = 13 ∧ 0 ≤ (1600 : Int) ∧ (1600 : Int) ≤ 60000 ∧ 1 ≤ mc81 ∧ (1600 : Int).toNat ≤ ms81 ∧ (∀ (S83 : Sh) (V83 : Mem) (r83 : Int) (mc83 ms83 : Nat), r83 = S81.2.2 + 1 → S83 = nw S81 20 1600 → V83 = clr (up V81 x0 57 r81) r83 → mc83 = mc81 - 1 → ms83 = ms81 - (1600 : Int).toNat → S83.1 x0 = 13 ∧ 0 ≤ (10 : Int) ∧ (10 : Int) ≤ 60000 ∧ 1 ≤ mc83 ∧ (10 : Int).toNat ≤ ms83 ∧ (∀ (S85 : Sh) (V85 : Mem) (r85 : Int) (mc85 ms85 : Nat), r85 = S83.2.2 + 1 → S85 = nw S83 20 10 → V85 = clr (up V83 x0 58 r83) r85 → mc85 = mc83 - 1 → ms85 = ms83 - (10 : Int).toNat → S85.1 x0 = 13 ∧ 0 ≤ (31000 : Int) ∧ (31000 : Int) ≤ 60000 ∧ 1 ≤ mc85 ∧ (31000 : Int).toNat ≤ ms85 ∧ (∀ (S87 : Sh) (V87 : Mem) (r87 : Int) (mc87 ms87 : Nat), r87 = S85.2.2 + 1 → S87 = nw S85 20 31000 → V87 = clr (up V85 x0 59 r85) r87 → mc87 = mc85 - 1 → ms87 = ms85 - (31000 : Int).toNat → S87.1 x0 = 13 ∧ 0 ≤ (31000 : Int) ∧ (31000 : Int) ≤ 60000 ∧ 1 ≤ mc87 ∧ (31000 : Int).toNat ≤ ms87 ∧ (∀ (S89 : Sh) (V89 : Mem) (r89 : Int) (mc89 ms89 : Nat), r89 = S87.2.2 + 1 → S89 = nw S87 20 31000 → V89 = clr (up V87 x0 60 r87) r89 → mc89 = mc87 - 1 → ms89 = ms87 - (31000 : Int).toNat → S89.1 x0 = 13 ∧ 0 ≤ (10 : Int) ∧ (10 : Int) ≤ 60000 ∧ 1 ≤ mc89 ∧ (10 : Int).toNat ≤ ms89 ∧ (∀ (S91 : Sh) (V91 : Mem) (r91 : Int) (mc91 ms91 : Nat), r91 = S89.2.2 + 1 → S91 = nw S89 20 10 → V91 = clr (up V89 x0 61 r89) r91 → mc91 = mc89 - 1 → ms91 = ms89 - (10 : Int).toNat → S91.1 x0 = 13 ∧ 0 ≤ (13 : Int) ∧ (13 : Int) ≤ 60000 ∧ 1 ≤ mc91 ∧ (13 : Int).toNat ≤ ms91 ∧ (∀ (S93 : Sh) (V93 : Mem) (r93 : Int) (mc93 ms93 : Nat), r93 = S91.2.2 + 1 → S93 = nw S91 20 13 → V93 = clr (up V91 x0 62 r91) r93 → mc93 = mc91 - 1 → ms93 = ms91 - (13 : Int).toNat → S93.1 x0 = 13 ∧ 0 ≤ (40 : Int) ∧ (40 : Int) ≤ 60000 ∧ 1 ≤ mc93 ∧ (40 : Int).toNat ≤ ms93 ∧ (∀ (S95 : Sh) (V95 : Mem) (r95 : Int) (mc95 ms95 : Nat), r95 = S93.2.2 + 1 → S95 = nw S93 20 40 → V95 = clr (up V93 x0 63 r93) r95 → mc95 = mc93 - 1 → ms95 = ms93 - (40 : Int).toNat → S95.1 x0 = 13 ∧ 0 ≤ (40 : Int) ∧ (40 : Int) ≤ 60000 ∧ 1 ≤ mc95 ∧ (40 : Int).toNat ≤ ms95 ∧ (∀ (S97 : Sh) (V97 : Mem) (r97 : Int) (mc97 ms97 : Nat), r97 = S95.2.2 + 1 → S97 = nw S95 20 40 → V97 = clr (up V95 x0 66 r95) r97 → mc97 = mc95 - 1 → ms97 = ms95 - (40 : Int).toNat → S97.1 x0 = 13 ∧ 0 ≤ (40 : Int) ∧ (40 : Int) ≤ 60000 ∧ 1 ≤ mc97 ∧ (40 : Int).toNat ≤ ms97 ∧ (∀ (S99 : Sh) (V99 : Mem) (r99 : Int) (mc99 ms99 : Nat), r99 = S97.2.2 + 1 → S99 = nw S97 20 40 → V99 = clr (up V97 x0 67 r97) r99 → mc99 = mc97 - 1 → ms99 = ms97 - (40 : Int).toNat → S99.1 x0 = 13 ∧ 0 ≤ (40 : Int) ∧ (40 : Int) ≤ 60000 ∧ 1 ≤ mc99 ∧ (40 : Int).toNat ≤ ms99 ∧ (∀ (S101 : Sh) (V101 : Mem) (r101 : Int) (mc101 ms101 : Nat), r101 = S99.2.2 + 1 → S101 = nw S99 20 40 → V101 = clr (up V99 x0 70 r99) r101 → mc101 = mc99 - 1 → ms101 = ms99 - (40 : Int).toNat → S101.1 x0 = 13 ∧ 0 ≤ (10 : Int) ∧ (10 : Int) ≤ 60000 ∧ 1 ≤ mc101 ∧ (10 : Int).toNat ≤ ms101 ∧ (∀ (S103 : Sh) (V103 : Mem) (r103 : Int) (mc103 ms103 : Nat), r103 = S101.2.2 + 1 → S103 = nw S101 20 10 → V103 = clr (up V101 x0 71 r101) r103 → mc103 = mc101 - 1 → ms103 = ms101 - (10 : Int).toNat → S103.1 x0 = 13 ∧ 0 ≤ (10 : Int) ∧ (10 : Int) ≤ 60000 ∧ 1 ≤ mc103 ∧ (10 : Int).toNat ≤ ms103 ∧ (∀ (S105 : Sh) (V105 : Mem) (r105 : Int) (mc105 ms105 : Nat), r105 = S103.2.2 + 1 → S105 = nw S103 20 10 → V105 = clr (up V103 x0 73 r103) r105 → mc105 = mc103 - 1 → ms105 = ms103 - (10 : Int).toNat → S105.1 x0 = 13 ∧ 0 ≤ (240 : Int) ∧ (240 : Int) ≤ 60000 ∧ 1 ≤ mc105 ∧ (240 : Int).toNat ≤ ms105 ∧ (∀ (S107 : Sh) (V107 : Mem) (r107 : Int) (mc107 ms107 : Nat), r107 = S105.2.2 + 1 → S107 = nw S105 20 240 → V107 = clr (up V105 x0 74 r105) r107 → mc107 = mc105 - 1 → ms107 = ms105 - (240 : Int).toNat → S107.1 x0 = 13 ∧ 0 ≤ (20 : Int) ∧ (20 : Int) ≤ 60000 ∧ 1 ≤ mc107 ∧ (20 : Int).toNat ≤ ms107 ∧ (∀ (S109 : Sh) (V109 : Mem) (r109 : Int) (mc109 ms109 : Nat), r109 = S107.2.2 + 1 → S109 = nw S107 20 20 → V109 = clr (up V107 x0 75 r107) r109 → mc109 = mc107 - 1 → ms109 = ms107 - (20 : Int).toNat → S109.1 x0 = 13 ∧ 0 ≤ (20 : Int) ∧ (20 : Int) ≤ 60000 ∧ 1 ≤ mc109 ∧ (20 : Int).toNat ≤ ms109 ∧ (∀ (S111 : Sh) (V111 : Mem) (r111 : Int) (mc111 ms111 : Nat), r111 = S109.2.2 + 1 → S111 = nw S109 20 20 → V111 = clr (up V109 x0 77 r109) r111 → mc111 = mc109 - 1 → ms111 = ms109 - (20 : Int).toNat → S111.1 x0 = 13 ∧ 0 ≤ (1220 : Int) ∧ (1220 : Int) ≤ 60000 ∧ 1 ≤ mc111 ∧ (1220 : Int).toNat ≤ ms111 ∧ (∀ (S113 : Sh) (V113 : Mem) (r113 : Int) (mc113 ms113 : Nat), r113 = S111.2.2 + 1 → S113 = nw S111 20 1220 → V113 = clr (up V111 x0 78 r111) r113 → mc113 = mc111 - 1 → ms113 = ms111 - (1220 : Int).toNat → S113.1 x0 = 13 ∧ 0 ≤ (1220 : Int) ∧ (1220 : Int) ≤ 60000 ∧ 1 ≤ mc113 ∧ (1220 : Int).toNat ≤ ms113 ∧ (∀ (S115 : Sh) (V115 : Mem) (r115 : Int) (mc115 ms115 : Nat), r115 = S113.2.2 + 1 → S115 = nw S113 20 1220 → V115 = clr (up V113 x0 79 r113) r115 → mc115 = mc113 - 1 → ms115 = ms113 - (1220 : Int).toNat → S115.1 x0 = 13 ∧ 0 ≤ (3000 : Int) ∧ (3000 : Int) ≤ 60000 ∧ 1 ≤ mc115 ∧ (3000 : Int).toNat ≤ ms115 ∧ (∀ (S117 : Sh) (V117 : Mem) (r117 : Int) (mc117 ms117 : Nat), r117 = S115.2.2 + 1 → S117 = nw S115 21 3000 → V117 = clr (up V115 x0 80 r115) r117 → mc117 = mc115 - 1 → ms117 = ms115 - (3000 : Int).toNat → S117.1 x0 = 13 ∧ Q 0 S117 (up V117 x0 82 r117))))))))))))))))))))))))))))))))))))))))))))))))))))))))))))) : XJ l G bX12_init Q d 0 [vr x0] [] S V mc ms := by
  refine X_aload_n dX12_init_0 rfl ?_
  refine X_objInit dX12_init_1 ⟨km_RX12_1, k_obj⟩ h.1 (Nat.le_of_ble_eq_true rfl) h.2.1 ?_
  refine X_aload_n dX12_init_4 rfl ?_
  refine X_sipush dX12_init_5 (by decide) (by decide) ?_
  refine X_newarr (t := 21) dX12_init_8 k_arr.2.1 rfl (by decide) (by decide) h.2.2.1 h.2.2.2.1 h.2.2.2.2.1 h.2.2.2.2.2.1 ?_
  generalize hShn2 : nw S 21 3000 = S1
  generalize hVhn2 : clr V (S.2.2 + 1) = V1
  generalize hrhn2 : S.2.2 + 1 = r1 at hVhn2 ⊢
  generalize hmhn2 : mc - 1 = mc1
  generalize hkhn2 : ms - (3000 : Int).toNat = ms1
  have hn2 := h.2.2.2.2.2.2 S1 V1 r1 mc1 ms1 hrhn2.symm hShn2.symm hVhn2.symm hmhn2.symm hkhn2.symm
  refine X_putfield (ci := 12) (k := 1) (z := r1) dX12_init_10 rfl (by decide) kf_RX12_7 (Or.inr (Or.inr (Or.inr (Or.inr ⟨_, rfl⟩)))) (Or.inr ⟨rfl, rfl, rfl⟩) rfl (fun hv => hv) hn2.1 ?_
  refine X_aload_n dX12_init_13 rfl ?_
  refine X_sipush dX12_init_14 (by decide) (by decide) ?_
  refine X_newarr (t := 21) dX12_init_17 k_arr.2.1 rfl (by decide) (by decide) hn2.2.1 hn2.2.2.1 hn2.2.2.2.1 hn2.2.2.2.2.1 ?_
  generalize hShn4 : nw S1 21 30000 = S3
  generalize hVhn4 : clr (up V1 x0 1 r1) (S1.2.2 + 1) = V3
  generalize hrhn4 : S1.2.2 + 1 = r3 at hVhn4 ⊢
  generalize hmhn4 : mc1 - 1 = mc3
  generalize hkhn4 : ms1 - (30000 : Int).toNat = ms3
  have hn4 := hn2.2.2.2.2.2 S3 V3 r3 mc3 ms3 hrhn4.symm hShn4.symm hVhn4.symm hmhn4.symm hkhn4.symm
  refine X_putfield (ci := 12) (k := 7) (z := r3) dX12_init_19 rfl (by decide) kf_RX12_13 (Or.inr (Or.inr (Or.inr (Or.inr ⟨_, rfl⟩)))) (Or.inr ⟨rfl, rfl, rfl⟩) rfl (fun hv => hv) hn4.1 ?_
  refine X_aload_n dX12_init_22 rfl ?_
  refine X_bipush dX12_init_23 (by decide) (by decide) ?_
  refine X_newarr (t := 20) dX12_init_25 k_arr.1 rfl (by decide) (by decide) hn4.2.1 hn4.2.2.1 hn4.2.2.2.1 hn4.2.2.2.2.1 ?_
  generalize hShn6 : nw S3 20 10 = S5
  generalize hVhn6 : clr (up V3 x0 7 r3) (S3.2.2 + 1) = V5
  generalize hrhn6 : S3.2.2 + 1 = r5 at hVhn6 ⊢
  generalize hmhn6 : mc3 - 1 = mc5
  generalize hkhn6 : ms3 - (10 : Int).toNat = ms5
  have hn6 := hn4.2.2.2.2.2 S5 V5 r5 mc5 ms5 hrhn6.symm hShn6.symm hVhn6.symm hmhn6.symm hkhn6.symm
  refine X_putfield (ci := 12) (k := 10) (z := r5) dX12_init_27 rfl (by decide) kf_RX12_16 (Or.inr (Or.inr (Or.inr (Or.inr ⟨_, rfl⟩)))) (Or.inr ⟨rfl, rfl, rfl⟩) rfl (fun hv => hv) hn6.1 ?_
  refine X_aload_n dX12_init_30 rfl ?_
  refine X_bipush dX12_init_31 (by decide) (by decide) ?_
  refine X_newarr (t := 20) dX12_init_33 k_arr.1 rfl (by decide) (by decide) hn6.2.1 hn6.2.2.1 hn6.2.2.2.1 hn6.2.2.2.2.1 ?_
  generalize hShn8 : nw S5 20 10 = S7
  generalize hVhn8 : clr (up V5 x0 10 r5) (S5.2.2 + 1) = V7
  generalize hrhn8 : S5.2.2 + 1 = r7 at hVhn8 ⊢
  generalize hmhn8 : mc5 - 1 = mc7
  generalize hkhn8 : ms5 - (10 : Int).toNat = ms7
  have hn8 := hn6.2.2.2.2.2 S7 V7 r7 mc7 ms7 hrhn8.symm hShn8.symm hVhn8.symm hmhn8.symm hkhn8.symm
  refine X_putfield (ci := 12) (k := 11) (z := r7) dX12_init_35 rfl (by decide) kf_RX12_20 (Or.inr (Or.inr (Or.inr (Or.inr ⟨_, rfl⟩)))) (Or.inr ⟨rfl, rfl, rfl⟩) rfl (fun hv => hv) hn8.1 ?_
  refine X_aload_n dX12_init_38 rfl ?_
  refine X_bipush dX12_init_39 (by decide) (by decide) ?_
  refine X_newarr (t := 20) dX12_init_41 k_arr.1 rfl (by decide) (by decide) hn8.2.1 hn8.2.2.1 hn8.2.2.2.1 hn8.2.2.2.2.1 ?_
  generalize hShn10 : nw S7 20 40 = S9
  generalize hVhn10 : clr (up V7 x0 11 r7) (S7.2.2 + 1) = V9
  generalize hrhn10 : S7.2.2 + 1 = r9 at hVhn10 ⊢
  generalize hmhn10 : mc7 - 1 = mc9
  generalize hkhn10 : ms7 - (40 : Int).toNat = ms9
  have hn10 := hn8.2.2.2.2.2 S9 V9 r9 mc9 ms9 hrhn10.symm hShn10.symm hVhn10.symm hmhn10.symm hkhn10.symm
  refine X_putfield (ci := 12) (k := 12) (z := r9) dX12_init_43 rfl (by decide) kf_RX12_23 (Or.inr (Or.inr (Or.inr (Or.inr ⟨_, rfl⟩)))) (Or.inr ⟨rfl, rfl, rfl⟩) rfl (fun hv => hv) hn10.1 ?_
  refine X_aload_n dX12_init_46 rfl ?_
  refine X_bipush dX12_init_47 (by decide) (by decide) ?_
  refine X_newarr (t := 20) dX12_init_49 k_arr.1 rfl (by decide) (by decide) hn10.2.1 hn10.2.2.1 hn10.2.2.2.1 hn10.2.2.2.2.1 ?_
  generalize hShn12 : nw S9 20 120 = S11
  generalize hVhn12 : clr (up V9 x0 12 r9) (S9.2.2 + 1) = V11
  generalize hrhn12 : S9.2.2 + 1 = r11 at hVhn12 ⊢
  generalize hmhn12 : mc9 - 1 = mc11
  generalize hkhn12 : ms9 - (120 : Int).toNat = ms11
  have hn12 := hn10.2.2.2.2.2 S11 V11 r11 mc11 ms11 hrhn12.symm hShn12.symm hVhn12.symm hmhn12.symm hkhn12.symm
  refine X_putfield (ci := 12) (k := 13) (z := r11) dX12_init_51 rfl (by decide) kf_RX12_26 (Or.inr (Or.inr (Or.inr (Or.inr ⟨_, rfl⟩)))) (Or.inr ⟨rfl, rfl, rfl⟩) rfl (fun hv => hv) hn12.1 ?_
  refine X_aload_n dX12_init_54 rfl ?_
  refine X_bipush dX12_init_55 (by decide) (by decide) ?_
  refine X_newarr (t := 20) dX12_init_57 k_arr.1 rfl (by decide) (by decide) hn12.2.1 hn12.2.2.1 hn12.2.2.2.1 hn12.2.2.2.2.1 ?_
  generalize hShn14 : nw S11 20 120 = S13
  generalize hVhn14 : clr (up V11 x0 13 r11) (S11.2.2 + 1) = V13
  generalize hrhn14 : S11.2.2 + 1 = r13 at hVhn14 ⊢
  generalize hmhn14 : mc11 - 1 = mc13
  generalize hkhn14 : ms11 - (120 : Int).toNat = ms13
  have hn14 := hn12.2.2.2.2.2 S13 V13 r13 mc13 ms13 hrhn14.symm hShn14.symm hVhn14.symm hmhn14.symm hkhn14.symm
  refine X_putfield (ci := 12) (k := 14) (z := r13) dX12_init_59 rfl (by decide) kf_RX12_29 (Or.inr (Or.inr (Or.inr (Or.inr ⟨_, rfl⟩)))) (Or.inr ⟨rfl, rfl, rfl⟩) rfl (fun hv => hv) hn14.1 ?_
  refine X_aload_n dX12_init_62 rfl ?_
  refine X_bipush dX12_init_63 (by decide) (by decide) ?_
  refine X_newarr (t := 20) dX12_init_65 k_arr.1 rfl (by decide) (by decide) hn14.2.1 hn14.2.2.1 hn14.2.2.2.1 hn14.2.2.2.2.1 ?_
  generalize hShn16 : nw S13 20 120 = S15
  generalize hVhn16 : clr (up V13 x0 14 r13) (S13.2.2 + 1) = V15
  generalize hrhn16 : S13.2.2 + 1 = r15 at hVhn16 ⊢
  generalize hmhn16 : mc13 - 1 = mc15
  generalize hkhn16 : ms13 - (120 : Int).toNat = ms15
  have hn16 := hn14.2.2.2.2.2 S15 V15 r15 mc15 ms15 hrhn16.symm hShn16.symm hVhn16.symm hmhn16.symm hkhn16.symm
  refine X_putfield (ci := 12) (k := 15) (z := r15) dX12_init_67 rfl (by decide) kf_RX12_32 (Or.inr (Or.inr (Or.inr (Or.inr ⟨_, rfl⟩)))) (Or.inr ⟨rfl, rfl, rfl⟩) rfl (fun hv => hv) hn16.1 ?_
  refine X_aload_n dX12_init_70 rfl ?_
  refine X_bipush dX12_init_71 (by decide) (by decide) ?_
  refine X_newarr (t := 20) dX12_init_73 k_arr.1 rfl (by decide) (by decide) hn16.2.1 hn16.2.2.1 hn16.2.2.2.1 hn16.2.2.2.2.1 ?_
  generalize hShn18 : nw S15 20 120 = S17
  generalize hVhn18 : clr (up V15 x0 15 r15) (S15.2.2 + 1) = V17
  generalize hrhn18 : S15.2.2 + 1 = r17 at hVhn18 ⊢
  generalize hmhn18 : mc15 - 1 = mc17
  generalize hkhn18 : ms15 - (120 : Int).toNat = ms17
  have hn18 := hn16.2.2.2.2.2 S17 V17 r17 mc17 ms17 hrhn18.symm hShn18.symm hVhn18.symm hmhn18.symm hkhn18.symm
  refine X_putfield (ci := 12) (k := 16) (z := r17) dX12_init_75 rfl (by decide) kf_RX12_35 (Or.inr (Or.inr (Or.inr (Or.inr ⟨_, rfl⟩)))) (Or.inr ⟨rfl, rfl, rfl⟩) rfl (fun hv => hv) hn18.1 ?_
  refine X_aload_n dX12_init_78 rfl ?_
  refine X_bipush dX12_init_79 (by decide) (by decide) ?_
  refine X_newarr (t := 20) dX12_init_81 k_arr.1 rfl (by decide) (by decide) hn18.2.1 hn18.2.2.1 hn18.2.2.2.1 hn18.2.2.2.2.1 ?_
  generalize hShn20 : nw S17 20 120 = S19
  generalize hVhn20 : clr (up V17 x0 16 r17) (S17.2.2 + 1) = V19
  generalize hrhn20 : S17.2.2 + 1 = r19 at hVhn20 ⊢
  generalize hmhn20 : mc17 - 1 = mc19
  generalize hkhn20 : ms17 - (120 : Int).toNat = ms19
  have hn20 := hn18.2.2.2.2.2 S19 V19 r19 mc19 ms19 hrhn20.symm hShn20.symm hVhn20.symm hmhn20.symm hkhn20.symm
  refine X_putfield (ci := 12) (k := 17) (z := r19) dX12_init_83 rfl (by decide) kf_RX12_38 (Or.inr (Or.inr (Or.inr (Or.inr ⟨_, rfl⟩)))) (Or.inr ⟨rfl, rfl, rfl⟩) rfl (fun hv => hv) hn20.1 ?_
  refine X_aload_n dX12_init_86 rfl ?_
  refine X_bipush dX12_init_87 (by decide) (by decide) ?_
  refine X_newarr (t := 20) dX12_init_89 k_arr.1 rfl (by decide) (by decide) hn20.2.1 hn20.2.2.1 hn20.2.2.2.1 hn20.2.2.2.2.1 ?_
  generalize hShn22 : nw S19 20 120 = S21
  generalize hVhn22 : clr (up V19 x0 17 r19) (S19.2.2 + 1) = V21
  generalize hrhn22 : S19.2.2 + 1 = r21 at hVhn22 ⊢
  generalize hmhn22 : mc19 - 1 = mc21
  generalize hkhn22 : ms19 - (120 : Int).toNat = ms21
  have hn22 := hn20.2.2.2.2.2 S21 V21 r21 mc21 ms21 hrhn22.symm hShn22.symm hVhn22.symm hmhn22.symm hkhn22.symm
  refine X_putfield (ci := 12) (k := 18) (z := r21) dX12_init_91 rfl (by decide) kf_RX12_41 (Or.inr (Or.inr (Or.inr (Or.inr ⟨_, rfl⟩)))) (Or.inr ⟨rfl, rfl, rfl⟩) rfl (fun hv => hv) hn22.1 ?_
  refine X_aload_n dX12_init_94 rfl ?_
  refine X_sipush dX12_init_95 (by decide) (by decide) ?_
  refine X_newarr (t := 20) dX12_init_98 k_arr.1 rfl (by decide) (by decide) hn22.2.1 hn22.2.2.1 hn22.2.2.2.1 hn22.2.2.2.2.1 ?_
  generalize hShn24 : nw S21 20 480 = S23
  generalize hVhn24 : clr (up V21 x0 18 r21) (S21.2.2 + 1) = V23
  generalize hrhn24 : S21.2.2 + 1 = r23 at hVhn24 ⊢
  generalize hmhn24 : mc21 - 1 = mc23
  generalize hkhn24 : ms21 - (480 : Int).toNat = ms23
  have hn24 := hn22.2.2.2.2.2 S23 V23 r23 mc23 ms23 hrhn24.symm hShn24.symm hVhn24.symm hmhn24.symm hkhn24.symm
  refine X_putfield (ci := 12) (k := 19) (z := r23) dX12_init_100 rfl (by decide) kf_RX12_44 (Or.inr (Or.inr (Or.inr (Or.inr ⟨_, rfl⟩)))) (Or.inr ⟨rfl, rfl, rfl⟩) rfl (fun hv => hv) hn24.1 ?_
  refine X_aload_n dX12_init_103 rfl ?_
  refine X_sipush dX12_init_104 (by decide) (by decide) ?_
  refine X_newarr (t := 20) dX12_init_107 k_arr.1 rfl (by decide) (by decide) hn24.2.1 hn24.2.2.1 hn24.2.2.2.1 hn24.2.2.2.2.1 ?_
  generalize hShn26 : nw S23 20 2880 = S25
  generalize hVhn26 : clr (up V23 x0 19 r23) (S23.2.2 + 1) = V25
  generalize hrhn26 : S23.2.2 + 1 = r25 at hVhn26 ⊢
  generalize hmhn26 : mc23 - 1 = mc25
  generalize hkhn26 : ms23 - (2880 : Int).toNat = ms25
  have hn26 := hn24.2.2.2.2.2 S25 V25 r25 mc25 ms25 hrhn26.symm hShn26.symm hVhn26.symm hmhn26.symm hkhn26.symm
  refine X_putfield (ci := 12) (k := 20) (z := r25) dX12_init_109 rfl (by decide) kf_RX12_47 (Or.inr (Or.inr (Or.inr (Or.inr ⟨_, rfl⟩)))) (Or.inr ⟨rfl, rfl, rfl⟩) rfl (fun hv => hv) hn26.1 ?_
  refine X_aload_n dX12_init_112 rfl ?_
  refine X_sipush dX12_init_113 (by decide) (by decide) ?_
  refine X_newarr (t := 20) dX12_init_116 k_arr.1 rfl (by decide) (by decide) hn26.2.1 hn26.2.2.1 hn26.2.2.2.1 hn26.2.2.2.2.1 ?_
  generalize hShn28 : nw S25 20 2880 = S27
  generalize hVhn28 : clr (up V25 x0 20 r25) (S25.2.2 + 1) = V27
  generalize hrhn28 : S25.2.2 + 1 = r27 at hVhn28 ⊢
  generalize hmhn28 : mc25 - 1 = mc27
  generalize hkhn28 : ms25 - (2880 : Int).toNat = ms27
  have hn28 := hn26.2.2.2.2.2 S27 V27 r27 mc27 ms27 hrhn28.symm hShn28.symm hVhn28.symm hmhn28.symm hkhn28.symm
  refine X_putfield (ci := 12) (k := 21) (z := r27) dX12_init_118 rfl (by decide) kf_RX12_50 (Or.inr (Or.inr (Or.inr (Or.inr ⟨_, rfl⟩)))) (Or.inr ⟨rfl, rfl, rfl⟩) rfl (fun hv => hv) hn28.1 ?_
  refine X_aload_n dX12_init_121 rfl ?_
  refine X_sipush dX12_init_122 (by decide) (by decide) ?_
  refine X_newarr (t := 20) dX12_init_125 k_arr.1 rfl (by decide) (by decide) hn28.2.1 hn28.2.2.1 hn28.2.2.2.1 hn28.2.2.2.2.1 ?_
  generalize hShn30 : nw S27 20 11520 = S29
  generalize hVhn30 : clr (up V27 x0 21 r27) (S27.2.2 + 1) = V29
  generalize hrhn30 : S27.2.2 + 1 = r29 at hVhn30 ⊢
  generalize hmhn30 : mc27 - 1 = mc29
  generalize hkhn30 : ms27 - (11520 : Int).toNat = ms29
  have hn30 := hn28.2.2.2.2.2 S29 V29 r29 mc29 ms29 hrhn30.symm hShn30.symm hVhn30.symm hmhn30.symm hkhn30.symm
  refine X_putfield (ci := 12) (k := 22) (z := r29) dX12_init_127 rfl (by decide) kf_RX12_53 (Or.inr (Or.inr (Or.inr (Or.inr ⟨_, rfl⟩)))) (Or.inr ⟨rfl, rfl, rfl⟩) rfl (fun hv => hv) hn30.1 ?_
  refine X_aload_n dX12_init_130 rfl ?_
  refine X_sipush dX12_init_131 (by decide) (by decide) ?_
  refine X_newarr (t := 20) dX12_init_134 k_arr.1 rfl (by decide) (by decide) hn30.2.1 hn30.2.2.1 hn30.2.2.2.1 hn30.2.2.2.2.1 ?_
  generalize hShn32 : nw S29 20 480 = S31
  generalize hVhn32 : clr (up V29 x0 22 r29) (S29.2.2 + 1) = V31
  generalize hrhn32 : S29.2.2 + 1 = r31 at hVhn32 ⊢
  generalize hmhn32 : mc29 - 1 = mc31
  generalize hkhn32 : ms29 - (480 : Int).toNat = ms31
  have hn32 := hn30.2.2.2.2.2 S31 V31 r31 mc31 ms31 hrhn32.symm hShn32.symm hVhn32.symm hmhn32.symm hkhn32.symm
  refine X_putfield (ci := 12) (k := 23) (z := r31) dX12_init_136 rfl (by decide) kf_RX12_56 (Or.inr (Or.inr (Or.inr (Or.inr ⟨_, rfl⟩)))) (Or.inr ⟨rfl, rfl, rfl⟩) rfl (fun hv => hv) hn32.1 ?_
  refine X_aload_n dX12_init_139 rfl ?_
  refine X_sipush dX12_init_140 (by decide) (by decide) ?_
  refine X_newarr (t := 20) dX12_init_143 k_arr.1 rfl (by decide) (by decide) hn32.2.1 hn32.2.2.1 hn32.2.2.2.1 hn32.2.2.2.2.1 ?_
  generalize hShn34 : nw S31 20 480 = S33
  generalize hVhn34 : clr (up V31 x0 23 r31) (S31.2.2 + 1) = V33
  generalize hrhn34 : S31.2.2 + 1 = r33 at hVhn34 ⊢
  generalize hmhn34 : mc31 - 1 = mc33
  generalize hkhn34 : ms31 - (480 : Int).toNat = ms33
  have hn34 := hn32.2.2.2.2.2 S33 V33 r33 mc33 ms33 hrhn34.symm hShn34.symm hVhn34.symm hmhn34.symm hkhn34.symm
  refine X_putfield (ci := 12) (k := 24) (z := r33) dX12_init_145 rfl (by decide) kf_RX12_59 (Or.inr (Or.inr (Or.inr (Or.inr ⟨_, rfl⟩)))) (Or.inr ⟨rfl, rfl, rfl⟩) rfl (fun hv => hv) hn34.1 ?_
  refine X_aload_n dX12_init_148 rfl ?_
  refine X_sipush dX12_init_149 (by decide) (by decide) ?_
  refine X_newarr (t := 20) dX12_init_152 k_arr.1 rfl (by decide) (by decide) hn34.2.1 hn34.2.2.1 hn34.2.2.2.1 hn34.2.2.2.2.1 ?_
  generalize hShn36 : nw S33 20 5760 = S35
  generalize hVhn36 : clr (up V33 x0 24 r33) (S33.2.2 + 1) = V35
  generalize hrhn36 : S33.2.2 + 1 = r35 at hVhn36 ⊢
  generalize hmhn36 : mc33 - 1 = mc35
  generalize hkhn36 : ms33 - (5760 : Int).toNat = ms35
  have hn36 := hn34.2.2.2.2.2 S35 V35 r35 mc35 ms35 hrhn36.symm hShn36.symm hVhn36.symm hmhn36.symm hkhn36.symm
  refine X_putfield (ci := 12) (k := 25) (z := r35) dX12_init_154 rfl (by decide) kf_RX12_62 (Or.inr (Or.inr (Or.inr (Or.inr ⟨_, rfl⟩)))) (Or.inr ⟨rfl, rfl, rfl⟩) rfl (fun hv => hv) hn36.1 ?_
  refine X_aload_n dX12_init_157 rfl ?_
  refine X_sipush dX12_init_158 (by decide) (by decide) ?_
  refine X_newarr (t := 20) dX12_init_161 k_arr.1 rfl (by decide) (by decide) hn36.2.1 hn36.2.2.1 hn36.2.2.2.1 hn36.2.2.2.2.1 ?_
  generalize hShn38 : nw S35 20 360 = S37
  generalize hVhn38 : clr (up V35 x0 25 r35) (S35.2.2 + 1) = V37
  generalize hrhn38 : S35.2.2 + 1 = r37 at hVhn38 ⊢
  generalize hmhn38 : mc35 - 1 = mc37
  generalize hkhn38 : ms35 - (360 : Int).toNat = ms37
  have hn38 := hn36.2.2.2.2.2 S37 V37 r37 mc37 ms37 hrhn38.symm hShn38.symm hVhn38.symm hmhn38.symm hkhn38.symm
  refine X_putfield (ci := 12) (k := 26) (z := r37) dX12_init_163 rfl (by decide) kf_RX12_65 (Or.inr (Or.inr (Or.inr (Or.inr ⟨_, rfl⟩)))) (Or.inr ⟨rfl, rfl, rfl⟩) rfl (fun hv => hv) hn38.1 ?_
  refine X_aload_n dX12_init_166 rfl ?_
  refine X_sipush dX12_init_167 (by decide) (by decide) ?_
  refine X_newarr (t := 20) dX12_init_170 k_arr.1 rfl (by decide) (by decide) hn38.2.1 hn38.2.2.1 hn38.2.2.2.1 hn38.2.2.2.2.1 ?_
  generalize hShn40 : nw S37 20 480 = S39
  generalize hVhn40 : clr (up V37 x0 26 r37) (S37.2.2 + 1) = V39
  generalize hrhn40 : S37.2.2 + 1 = r39 at hVhn40 ⊢
  generalize hmhn40 : mc37 - 1 = mc39
  generalize hkhn40 : ms37 - (480 : Int).toNat = ms39
  have hn40 := hn38.2.2.2.2.2 S39 V39 r39 mc39 ms39 hrhn40.symm hShn40.symm hVhn40.symm hmhn40.symm hkhn40.symm
  refine X_putfield (ci := 12) (k := 27) (z := r39) dX12_init_172 rfl (by decide) kf_RX12_68 (Or.inr (Or.inr (Or.inr (Or.inr ⟨_, rfl⟩)))) (Or.inr ⟨rfl, rfl, rfl⟩) rfl (fun hv => hv) hn40.1 ?_
  refine X_aload_n dX12_init_175 rfl ?_
  refine X_sipush dX12_init_176 (by decide) (by decide) ?_
  refine X_newarr (t := 20) dX12_init_179 k_arr.1 rfl (by decide) (by decide) hn40.2.1 hn40.2.2.1 hn40.2.2.2.1 hn40.2.2.2.2.1 ?_
  generalize hShn42 : nw S39 20 480 = S41
  generalize hVhn42 : clr (up V39 x0 27 r39) (S39.2.2 + 1) = V41
  generalize hrhn42 : S39.2.2 + 1 = r41 at hVhn42 ⊢
  generalize hmhn42 : mc39 - 1 = mc41
  generalize hkhn42 : ms39 - (480 : Int).toNat = ms41
  have hn42 := hn40.2.2.2.2.2 S41 V41 r41 mc41 ms41 hrhn42.symm hShn42.symm hVhn42.symm hmhn42.symm hkhn42.symm
  refine X_putfield (ci := 12) (k := 28) (z := r41) dX12_init_181 rfl (by decide) kf_RX12_71 (Or.inr (Or.inr (Or.inr (Or.inr ⟨_, rfl⟩)))) (Or.inr ⟨rfl, rfl, rfl⟩) rfl (fun hv => hv) hn42.1 ?_
  refine X_aload_n dX12_init_184 rfl ?_
  refine X_sipush dX12_init_185 (by decide) (by decide) ?_
  refine X_newarr (t := 20) dX12_init_188 k_arr.1 rfl (by decide) (by decide) hn42.2.1 hn42.2.2.1 hn42.2.2.2.1 hn42.2.2.2.2.1 ?_
  generalize hShn44 : nw S41 20 360 = S43
  generalize hVhn44 : clr (up V41 x0 28 r41) (S41.2.2 + 1) = V43
  generalize hrhn44 : S41.2.2 + 1 = r43 at hVhn44 ⊢
  generalize hmhn44 : mc41 - 1 = mc43
  generalize hkhn44 : ms41 - (360 : Int).toNat = ms43
  have hn44 := hn42.2.2.2.2.2 S43 V43 r43 mc43 ms43 hrhn44.symm hShn44.symm hVhn44.symm hmhn44.symm hkhn44.symm
  refine X_putfield (ci := 12) (k := 29) (z := r43) dX12_init_190 rfl (by decide) kf_RX12_74 (Or.inr (Or.inr (Or.inr (Or.inr ⟨_, rfl⟩)))) (Or.inr ⟨rfl, rfl, rfl⟩) rfl (fun hv => hv) hn44.1 ?_
  refine X_aload_n dX12_init_193 rfl ?_
  refine X_sipush dX12_init_194 (by decide) (by decide) ?_
  refine X_newarr (t := 20) dX12_init_197 k_arr.1 rfl (by decide) (by decide) hn44.2.1 hn44.2.2.1 hn44.2.2.2.1 hn44.2.2.2.2.1 ?_
  generalize hShn46 : nw S43 20 360 = S45
  generalize hVhn46 : clr (up V43 x0 29 r43) (S43.2.2 + 1) = V45
  generalize hrhn46 : S43.2.2 + 1 = r45 at hVhn46 ⊢
  generalize hmhn46 : mc43 - 1 = mc45
  generalize hkhn46 : ms43 - (360 : Int).toNat = ms45
  have hn46 := hn44.2.2.2.2.2 S45 V45 r45 mc45 ms45 hrhn46.symm hShn46.symm hVhn46.symm hmhn46.symm hkhn46.symm
  refine X_putfield (ci := 12) (k := 30) (z := r45) dX12_init_199 rfl (by decide) kf_RX12_77 (Or.inr (Or.inr (Or.inr (Or.inr ⟨_, rfl⟩)))) (Or.inr ⟨rfl, rfl, rfl⟩) rfl (fun hv => hv) hn46.1 ?_
  refine X_aload_n dX12_init_202 rfl ?_
  refine X_sipush dX12_init_203 (by decide) (by decide) ?_
  refine X_newarr (t := 20) dX12_init_206 k_arr.1 rfl (by decide) (by decide) hn46.2.1 hn46.2.2.1 hn46.2.2.2.1 hn46.2.2.2.2.1 ?_
  generalize hShn48 : nw S45 20 4320 = S47
  generalize hVhn48 : clr (up V45 x0 30 r45) (S45.2.2 + 1) = V47
  generalize hrhn48 : S45.2.2 + 1 = r47 at hVhn48 ⊢
  generalize hmhn48 : mc45 - 1 = mc47
  generalize hkhn48 : ms45 - (4320 : Int).toNat = ms47
  have hn48 := hn46.2.2.2.2.2 S47 V47 r47 mc47 ms47 hrhn48.symm hShn48.symm hVhn48.symm hmhn48.symm hkhn48.symm
  refine X_putfield (ci := 12) (k := 31) (z := r47) dX12_init_208 rfl (by decide) kf_RX12_80 (Or.inr (Or.inr (Or.inr (Or.inr ⟨_, rfl⟩)))) (Or.inr ⟨rfl, rfl, rfl⟩) rfl (fun hv => hv) hn48.1 ?_
  refine X_aload_n dX12_init_211 rfl ?_
  refine X_sipush dX12_init_212 (by decide) (by decide) ?_
  refine X_newarr (t := 20) dX12_init_215 k_arr.1 rfl (by decide) (by decide) hn48.2.1 hn48.2.2.1 hn48.2.2.2.1 hn48.2.2.2.2.1 ?_
  generalize hShn50 : nw S47 20 4320 = S49
  generalize hVhn50 : clr (up V47 x0 31 r47) (S47.2.2 + 1) = V49
  generalize hrhn50 : S47.2.2 + 1 = r49 at hVhn50 ⊢
  generalize hmhn50 : mc47 - 1 = mc49
  generalize hkhn50 : ms47 - (4320 : Int).toNat = ms49
  have hn50 := hn48.2.2.2.2.2 S49 V49 r49 mc49 ms49 hrhn50.symm hShn50.symm hVhn50.symm hmhn50.symm hkhn50.symm
  refine X_putfield (ci := 12) (k := 32) (z := r49) dX12_init_217 rfl (by decide) kf_RX12_83 (Or.inr (Or.inr (Or.inr (Or.inr ⟨_, rfl⟩)))) (Or.inr ⟨rfl, rfl, rfl⟩) rfl (fun hv => hv) hn50.1 ?_
  refine X_aload_n dX12_init_220 rfl ?_
  refine X_sipush dX12_init_221 (by decide) (by decide) ?_
  refine X_newarr (t := 20) dX12_init_224 k_arr.1 rfl (by decide) (by decide) hn50.2.1 hn50.2.2.1 hn50.2.2.2.1 hn50.2.2.2.2.1 ?_
  generalize hShn52 : nw S49 20 4320 = S51
  generalize hVhn52 : clr (up V49 x0 32 r49) (S49.2.2 + 1) = V51
  generalize hrhn52 : S49.2.2 + 1 = r51 at hVhn52 ⊢
  generalize hmhn52 : mc49 - 1 = mc51
  generalize hkhn52 : ms49 - (4320 : Int).toNat = ms51
  have hn52 := hn50.2.2.2.2.2 S51 V51 r51 mc51 ms51 hrhn52.symm hShn52.symm hVhn52.symm hmhn52.symm hkhn52.symm
  refine X_putfield (ci := 12) (k := 33) (z := r51) dX12_init_226 rfl (by decide) kf_RX12_86 (Or.inr (Or.inr (Or.inr (Or.inr ⟨_, rfl⟩)))) (Or.inr ⟨rfl, rfl, rfl⟩) rfl (fun hv => hv) hn52.1 ?_
  refine X_aload_n dX12_init_229 rfl ?_
  refine X_sipush dX12_init_230 (by decide) (by decide) ?_
  refine X_newarr (t := 20) dX12_init_233 k_arr.1 rfl (by decide) (by decide) hn52.2.1 hn52.2.2.1 hn52.2.2.2.1 hn52.2.2.2.2.1 ?_
  generalize hShn54 : nw S51 20 360 = S53
  generalize hVhn54 : clr (up V51 x0 33 r51) (S51.2.2 + 1) = V53
  generalize hrhn54 : S51.2.2 + 1 = r53 at hVhn54 ⊢
  generalize hmhn54 : mc51 - 1 = mc53
  generalize hkhn54 : ms51 - (360 : Int).toNat = ms53
  have hn54 := hn52.2.2.2.2.2 S53 V53 r53 mc53 ms53 hrhn54.symm hShn54.symm hVhn54.symm hmhn54.symm hkhn54.symm
  refine X_putfield (ci := 12) (k := 34) (z := r53) dX12_init_235 rfl (by decide) kf_RX12_89 (Or.inr (Or.inr (Or.inr (Or.inr ⟨_, rfl⟩)))) (Or.inr ⟨rfl, rfl, rfl⟩) rfl (fun hv => hv) hn54.1 ?_
  refine X_aload_n dX12_init_238 rfl ?_
  refine X_sipush dX12_init_239 (by decide) (by decide) ?_
  refine X_newarr (t := 20) dX12_init_242 k_arr.1 rfl (by decide) (by decide) hn54.2.1 hn54.2.2.1 hn54.2.2.2.1 hn54.2.2.2.2.1 ?_
  generalize hShn56 : nw S53 20 31000 = S55
  generalize hVhn56 : clr (up V53 x0 34 r53) (S53.2.2 + 1) = V55
  generalize hrhn56 : S53.2.2 + 1 = r55 at hVhn56 ⊢
  generalize hmhn56 : mc53 - 1 = mc55
  generalize hkhn56 : ms53 - (31000 : Int).toNat = ms55
  have hn56 := hn54.2.2.2.2.2 S55 V55 r55 mc55 ms55 hrhn56.symm hShn56.symm hVhn56.symm hmhn56.symm hkhn56.symm
  refine X_putfield (ci := 12) (k := 35) (z := r55) dX12_init_244 rfl (by decide) kf_RX12_92 (Or.inr (Or.inr (Or.inr (Or.inr ⟨_, rfl⟩)))) (Or.inr ⟨rfl, rfl, rfl⟩) rfl (fun hv => hv) hn56.1 ?_
  refine X_aload_n dX12_init_247 rfl ?_
  refine X_sipush dX12_init_248 (by decide) (by decide) ?_
  refine X_newarr (t := 20) dX12_init_251 k_arr.1 rfl (by decide) (by decide) hn56.2.1 hn56.2.2.1 hn56.2.2.2.1 hn56.2.2.2.2.1 ?_
  generalize hShn58 : nw S55 20 31000 = S57
  generalize hVhn58 : clr (up V55 x0 35 r55) (S55.2.2 + 1) = V57
  generalize hrhn58 : S55.2.2 + 1 = r57 at hVhn58 ⊢
  generalize hmhn58 : mc55 - 1 = mc57
  generalize hkhn58 : ms55 - (31000 : Int).toNat = ms57
  have hn58 := hn56.2.2.2.2.2 S57 V57 r57 mc57 ms57 hrhn58.symm hShn58.symm hVhn58.symm hmhn58.symm hkhn58.symm
  refine X_putfield (ci := 12) (k := 36) (z := r57) dX12_init_253 rfl (by decide) kf_RX12_95 (Or.inr (Or.inr (Or.inr (Or.inr ⟨_, rfl⟩)))) (Or.inr ⟨rfl, rfl, rfl⟩) rfl (fun hv => hv) hn58.1 ?_
  refine X_aload_n dX12_init_256 rfl ?_
  refine X_sipush dX12_init_257 (by decide) (by decide) ?_
  refine X_newarr (t := 20) dX12_init_260 k_arr.1 rfl (by decide) (by decide) hn58.2.1 hn58.2.2.1 hn58.2.2.2.1 hn58.2.2.2.2.1 ?_
  generalize hShn60 : nw S57 20 31000 = S59
  generalize hVhn60 : clr (up V57 x0 36 r57) (S57.2.2 + 1) = V59
  generalize hrhn60 : S57.2.2 + 1 = r59 at hVhn60 ⊢
  generalize hmhn60 : mc57 - 1 = mc59
  generalize hkhn60 : ms57 - (31000 : Int).toNat = ms59
  have hn60 := hn58.2.2.2.2.2 S59 V59 r59 mc59 ms59 hrhn60.symm hShn60.symm hVhn60.symm hmhn60.symm hkhn60.symm
  refine X_putfield (ci := 12) (k := 37) (z := r59) dX12_init_262 rfl (by decide) kf_RX12_98 (Or.inr (Or.inr (Or.inr (Or.inr ⟨_, rfl⟩)))) (Or.inr ⟨rfl, rfl, rfl⟩) rfl (fun hv => hv) hn60.1 ?_
  refine X_aload_n dX12_init_265 rfl ?_
  refine X_sipush dX12_init_266 (by decide) (by decide) ?_
  refine X_newarr (t := 20) dX12_init_269 k_arr.1 rfl (by decide) (by decide) hn60.2.1 hn60.2.2.1 hn60.2.2.2.1 hn60.2.2.2.2.1 ?_
  generalize hShn62 : nw S59 20 31000 = S61
  generalize hVhn62 : clr (up V59 x0 37 r59) (S59.2.2 + 1) = V61
  generalize hrhn62 : S59.2.2 + 1 = r61 at hVhn62 ⊢
  generalize hmhn62 : mc59 - 1 = mc61
  generalize hkhn62 : ms59 - (31000 : Int).toNat = ms61
  have hn62 := hn60.2.2.2.2.2 S61 V61 r61 mc61 ms61 hrhn62.symm hShn62.symm hVhn62.symm hmhn62.symm hkhn62.symm
  refine X_putfield (ci := 12) (k := 38) (z := r61) dX12_init_271 rfl (by decide) kf_RX12_101 (Or.inr (Or.inr (Or.inr (Or.inr ⟨_, rfl⟩)))) (Or.inr ⟨rfl, rfl, rfl⟩) rfl (fun hv => hv) hn62.1 ?_
  refine X_aload_n dX12_init_274 rfl ?_
  refine X_sipush dX12_init_275 (by decide) (by decide) ?_
  refine X_newarr (t := 20) dX12_init_278 k_arr.1 rfl (by decide) (by decide) hn62.2.1 hn62.2.2.1 hn62.2.2.2.1 hn62.2.2.2.2.1 ?_
  generalize hShn64 : nw S61 20 31000 = S63
  generalize hVhn64 : clr (up V61 x0 38 r61) (S61.2.2 + 1) = V63
  generalize hrhn64 : S61.2.2 + 1 = r63 at hVhn64 ⊢
  generalize hmhn64 : mc61 - 1 = mc63
  generalize hkhn64 : ms61 - (31000 : Int).toNat = ms63
  have hn64 := hn62.2.2.2.2.2 S63 V63 r63 mc63 ms63 hrhn64.symm hShn64.symm hVhn64.symm hmhn64.symm hkhn64.symm
  refine X_putfield (ci := 12) (k := 39) (z := r63) dX12_init_280 rfl (by decide) kf_RX12_104 (Or.inr (Or.inr (Or.inr (Or.inr ⟨_, rfl⟩)))) (Or.inr ⟨rfl, rfl, rfl⟩) rfl (fun hv => hv) hn64.1 ?_
  refine X_aload_n dX12_init_283 rfl ?_
  refine X_sipush dX12_init_284 (by decide) (by decide) ?_
  refine X_newarr (t := 20) dX12_init_287 k_arr.1 rfl (by decide) (by decide) hn64.2.1 hn64.2.2.1 hn64.2.2.2.1 hn64.2.2.2.2.1 ?_
  generalize hShn66 : nw S63 20 3100 = S65
  generalize hVhn66 : clr (up V63 x0 39 r63) (S63.2.2 + 1) = V65
  generalize hrhn66 : S63.2.2 + 1 = r65 at hVhn66 ⊢
  generalize hmhn66 : mc63 - 1 = mc65
  generalize hkhn66 : ms63 - (3100 : Int).toNat = ms65
  have hn66 := hn64.2.2.2.2.2 S65 V65 r65 mc65 ms65 hrhn66.symm hShn66.symm hVhn66.symm hmhn66.symm hkhn66.symm
  refine X_putfield (ci := 12) (k := 48) (z := r65) dX12_init_289 rfl (by decide) kf_RX12_107 (Or.inr (Or.inr (Or.inr (Or.inr ⟨_, rfl⟩)))) (Or.inr ⟨rfl, rfl, rfl⟩) rfl (fun hv => hv) hn66.1 ?_
  refine X_aload_n dX12_init_292 rfl ?_
  refine X_sipush dX12_init_293 (by decide) (by decide) ?_
  refine X_newarr (t := 20) dX12_init_296 k_arr.1 rfl (by decide) (by decide) hn66.2.1 hn66.2.2.1 hn66.2.2.2.1 hn66.2.2.2.2.1 ?_
  generalize hShn68 : nw S65 20 3100 = S67
  generalize hVhn68 : clr (up V65 x0 48 r65) (S65.2.2 + 1) = V67
  generalize hrhn68 : S65.2.2 + 1 = r67 at hVhn68 ⊢
  generalize hmhn68 : mc65 - 1 = mc67
  generalize hkhn68 : ms65 - (3100 : Int).toNat = ms67
  have hn68 := hn66.2.2.2.2.2 S67 V67 r67 mc67 ms67 hrhn68.symm hShn68.symm hVhn68.symm hmhn68.symm hkhn68.symm
  refine X_putfield (ci := 12) (k := 49) (z := r67) dX12_init_298 rfl (by decide) kf_RX12_110 (Or.inr (Or.inr (Or.inr (Or.inr ⟨_, rfl⟩)))) (Or.inr ⟨rfl, rfl, rfl⟩) rfl (fun hv => hv) hn68.1 ?_
  refine X_aload_n dX12_init_301 rfl ?_
  refine X_sipush dX12_init_302 (by decide) (by decide) ?_
  refine X_newarr (t := 20) dX12_init_305 k_arr.1 rfl (by decide) (by decide) hn68.2.1 hn68.2.2.1 hn68.2.2.2.1 hn68.2.2.2.2.1 ?_
  generalize hShn70 : nw S67 20 3100 = S69
  generalize hVhn70 : clr (up V67 x0 49 r67) (S67.2.2 + 1) = V69
  generalize hrhn70 : S67.2.2 + 1 = r69 at hVhn70 ⊢
  generalize hmhn70 : mc67 - 1 = mc69
  generalize hkhn70 : ms67 - (3100 : Int).toNat = ms69
  have hn70 := hn68.2.2.2.2.2 S69 V69 r69 mc69 ms69 hrhn70.symm hShn70.symm hVhn70.symm hmhn70.symm hkhn70.symm
  refine X_putfield (ci := 12) (k := 50) (z := r69) dX12_init_307 rfl (by decide) kf_RX12_113 (Or.inr (Or.inr (Or.inr (Or.inr ⟨_, rfl⟩)))) (Or.inr ⟨rfl, rfl, rfl⟩) rfl (fun hv => hv) hn70.1 ?_
  refine X_aload_n dX12_init_310 rfl ?_
  refine X_sipush dX12_init_311 (by decide) (by decide) ?_
  refine X_newarr (t := 20) dX12_init_314 k_arr.1 rfl (by decide) (by decide) hn70.2.1 hn70.2.2.1 hn70.2.2.2.1 hn70.2.2.2.2.1 ?_
  generalize hShn72 : nw S69 20 1600 = S71
  generalize hVhn72 : clr (up V69 x0 50 r69) (S69.2.2 + 1) = V71
  generalize hrhn72 : S69.2.2 + 1 = r71 at hVhn72 ⊢
  generalize hmhn72 : mc69 - 1 = mc71
  generalize hkhn72 : ms69 - (1600 : Int).toNat = ms71
  have hn72 := hn70.2.2.2.2.2 S71 V71 r71 mc71 ms71 hrhn72.symm hShn72.symm hVhn72.symm hmhn72.symm hkhn72.symm
  refine X_putfield (ci := 12) (k := 52) (z := r71) dX12_init_316 rfl (by decide) kf_RX12_116 (Or.inr (Or.inr (Or.inr (Or.inr ⟨_, rfl⟩)))) (Or.inr ⟨rfl, rfl, rfl⟩) rfl (fun hv => hv) hn72.1 ?_
  refine X_aload_n dX12_init_319 rfl ?_
  refine X_bipush dX12_init_320 (by decide) (by decide) ?_
  refine X_newarr (t := 20) dX12_init_322 k_arr.1 rfl (by decide) (by decide) hn72.2.1 hn72.2.2.1 hn72.2.2.2.1 hn72.2.2.2.2.1 ?_
  generalize hShn74 : nw S71 20 120 = S73
  generalize hVhn74 : clr (up V71 x0 52 r71) (S71.2.2 + 1) = V73
  generalize hrhn74 : S71.2.2 + 1 = r73 at hVhn74 ⊢
  generalize hmhn74 : mc71 - 1 = mc73
  generalize hkhn74 : ms71 - (120 : Int).toNat = ms73
  have hn74 := hn72.2.2.2.2.2 S73 V73 r73 mc73 ms73 hrhn74.symm hShn74.symm hVhn74.symm hmhn74.symm hkhn74.symm
  refine X_putfield (ci := 12) (k := 53) (z := r73) dX12_init_324 rfl (by decide) kf_RX12_119 (Or.inr (Or.inr (Or.inr (Or.inr ⟨_, rfl⟩)))) (Or.inr ⟨rfl, rfl, rfl⟩) rfl (fun hv => hv) hn74.1 ?_
  refine X_aload_n dX12_init_327 rfl ?_
  refine X_sipush dX12_init_328 (by decide) (by decide) ?_
  refine X_newarr (t := 20) dX12_init_331 k_arr.1 rfl (by decide) (by decide) hn74.2.1 hn74.2.2.1 hn74.2.2.2.1 hn74.2.2.2.2.1 ?_
  generalize hShn76 : nw S73 20 2880 = S75
  generalize hVhn76 : clr (up V73 x0 53 r73) (S73.2.2 + 1) = V75
  generalize hrhn76 : S73.2.2 + 1 = r75 at hVhn76 ⊢
  generalize hmhn76 : mc73 - 1 = mc75
  generalize hkhn76 : ms73 - (2880 : Int).toNat = ms75
  have hn76 := hn74.2.2.2.2.2 S75 V75 r75 mc75 ms75 hrhn76.symm hShn76.symm hVhn76.symm hmhn76.symm hkhn76.symm
  refine X_putfield (ci := 12) (k := 54) (z := r75) dX12_init_333 rfl (by decide) kf_RX12_122 (Or.inr (Or.inr (Or.inr (Or.inr ⟨_, rfl⟩)))) (Or.inr ⟨rfl, rfl, rfl⟩) rfl (fun hv => hv) hn76.1 ?_
  refine X_aload_n dX12_init_336 rfl ?_
  refine X_sipush dX12_init_337 (by decide) (by decide) ?_
  refine X_newarr (t := 20) dX12_init_340 k_arr.1 rfl (by decide) (by decide) hn76.2.1 hn76.2.2.1 hn76.2.2.2.1 hn76.2.2.2.2.1 ?_
  generalize hShn78 : nw S75 20 480 = S77
  generalize hVhn78 : clr (up V75 x0 54 r75) (S75.2.2 + 1) = V77
  generalize hrhn78 : S75.2.2 + 1 = r77 at hVhn78 ⊢
  generalize hmhn78 : mc75 - 1 = mc77
  generalize hkhn78 : ms75 - (480 : Int).toNat = ms77
  have hn78 := hn76.2.2.2.2.2 S77 V77 r77 mc77 ms77 hrhn78.symm hShn78.symm hVhn78.symm hmhn78.symm hkhn78.symm
  refine X_putfield (ci := 12) (k := 55) (z := r77) dX12_init_342 rfl (by decide) kf_RX12_125 (Or.inr (Or.inr (Or.inr (Or.inr ⟨_, rfl⟩)))) (Or.inr ⟨rfl, rfl, rfl⟩) rfl (fun hv => hv) hn78.1 ?_
  refine X_aload_n dX12_init_345 rfl ?_
  refine X_sipush dX12_init_346 (by decide) (by decide) ?_
  refine X_newarr (t := 20) dX12_init_349 k_arr.1 rfl (by decide) (by decide) hn78.2.1 hn78.2.2.1 hn78.2.2.2.1 hn78.2.2.2.2.1 ?_
  generalize hShn80 : nw S77 20 5760 = S79
  generalize hVhn80 : clr (up V77 x0 55 r77) (S77.2.2 + 1) = V79
  generalize hrhn80 : S77.2.2 + 1 = r79 at hVhn80 ⊢
  generalize hmhn80 : mc77 - 1 = mc79
  generalize hkhn80 : ms77 - (5760 : Int).toNat = ms79
  have hn80 := hn78.2.2.2.2.2 S79 V79 r79 mc79 ms79 hrhn80.symm hShn80.symm hVhn80.symm hmhn80.symm hkhn80.symm
  refine X_putfield (ci := 12) (k := 56) (z := r79) dX12_init_351 rfl (by decide) kf_RX12_128 (Or.inr (Or.inr (Or.inr (Or.inr ⟨_, rfl⟩)))) (Or.inr ⟨rfl, rfl, rfl⟩) rfl (fun hv => hv) hn80.1 ?_
  refine X_aload_n dX12_init_354 rfl ?_
  refine X_sipush dX12_init_355 (by decide) (by decide) ?_
  refine X_newarr (t := 20) dX12_init_358 k_arr.1 rfl (by decide) (by decide) hn80.2.1 hn80.2.2.1 hn80.2.2.2.1 hn80.2.2.2.2.1 ?_
  generalize hShn82 : nw S79 20 480 = S81
  generalize hVhn82 : clr (up V79 x0 56 r79) (S79.2.2 + 1) = V81
  generalize hrhn82 : S79.2.2 + 1 = r81 at hVhn82 ⊢
  generalize hmhn82 : mc79 - 1 = mc81
  generalize hkhn82 : ms79 - (480 : Int).toNat = ms81
  have hn82 := hn80.2.2.2.2.2 S81 V81 r81 mc81 ms81 hrhn82.symm hShn82.symm hVhn82.symm hmhn82.symm hkhn82.symm
  refine X_putfield (ci := 12) (k := 57) (z := r81) dX12_init_360 rfl (by decide) kf_RX12_131 (Or.inr (Or.inr (Or.inr (Or.inr ⟨_, rfl⟩)))) (Or.inr ⟨rfl, rfl, rfl⟩) rfl (fun hv => hv) hn82.1 ?_
  refine X_aload_n dX12_init_363 rfl ?_
  refine X_sipush dX12_init_364 (by decide) (by decide) ?_
  refine X_newarr (t := 20) dX12_init_367 k_arr.1 rfl (by decide) (by decide) hn82.2.1 hn82.2.2.1 hn82.2.2.2.1 hn82.2.2.2.2.1 ?_
  generalize hShn84 : nw S81 20 1600 = S83
  generalize hVhn84 : clr (up V81 x0 57 r81) (S81.2.2 + 1) = V83
  generalize hrhn84 : S81.2.2 + 1 = r83 at hVhn84 ⊢
  generalize hmhn84 : mc81 - 1 = mc83
  generalize hkhn84 : ms81 - (1600 : Int).toNat = ms83
  have hn84 := hn82.2.2.2.2.2 S83 V83 r83 mc83 ms83 hrhn84.symm hShn84.symm hVhn84.symm hmhn84.symm hkhn84.symm
  refine X_putfield (ci := 12) (k := 58) (z := r83) dX12_init_369 rfl (by decide) kf_RX12_134 (Or.inr (Or.inr (Or.inr (Or.inr ⟨_, rfl⟩)))) (Or.inr ⟨rfl, rfl, rfl⟩) rfl (fun hv => hv) hn84.1 ?_
  refine X_aload_n dX12_init_372 rfl ?_
  refine X_bipush dX12_init_373 (by decide) (by decide) ?_
  refine X_newarr (t := 20) dX12_init_375 k_arr.1 rfl (by decide) (by decide) hn84.2.1 hn84.2.2.1 hn84.2.2.2.1 hn84.2.2.2.2.1 ?_
  generalize hShn86 : nw S83 20 10 = S85
  generalize hVhn86 : clr (up V83 x0 58 r83) (S83.2.2 + 1) = V85
  generalize hrhn86 : S83.2.2 + 1 = r85 at hVhn86 ⊢
  generalize hmhn86 : mc83 - 1 = mc85
  generalize hkhn86 : ms83 - (10 : Int).toNat = ms85
  have hn86 := hn84.2.2.2.2.2 S85 V85 r85 mc85 ms85 hrhn86.symm hShn86.symm hVhn86.symm hmhn86.symm hkhn86.symm
  refine X_putfield (ci := 12) (k := 59) (z := r85) dX12_init_377 rfl (by decide) kf_RX12_137 (Or.inr (Or.inr (Or.inr (Or.inr ⟨_, rfl⟩)))) (Or.inr ⟨rfl, rfl, rfl⟩) rfl (fun hv => hv) hn86.1 ?_
  refine X_aload_n dX12_init_380 rfl ?_
  refine X_sipush dX12_init_381 (by decide) (by decide) ?_
  refine X_newarr (t := 20) dX12_init_384 k_arr.1 rfl (by decide) (by decide) hn86.2.1 hn86.2.2.1 hn86.2.2.2.1 hn86.2.2.2.2.1 ?_
  generalize hShn88 : nw S85 20 31000 = S87
  generalize hVhn88 : clr (up V85 x0 59 r85) (S85.2.2 + 1) = V87
  generalize hrhn88 : S85.2.2 + 1 = r87 at hVhn88 ⊢
  generalize hmhn88 : mc85 - 1 = mc87
  generalize hkhn88 : ms85 - (31000 : Int).toNat = ms87
  have hn88 := hn86.2.2.2.2.2 S87 V87 r87 mc87 ms87 hrhn88.symm hShn88.symm hVhn88.symm hmhn88.symm hkhn88.symm
  refine X_putfield (ci := 12) (k := 60) (z := r87) dX12_init_386 rfl (by decide) kf_RX12_140 (Or.inr (Or.inr (Or.inr (Or.inr ⟨_, rfl⟩)))) (Or.inr ⟨rfl, rfl, rfl⟩) rfl (fun hv => hv) hn88.1 ?_
  refine X_aload_n dX12_init_389 rfl ?_
  refine X_sipush dX12_init_390 (by decide) (by decide) ?_
  refine X_newarr (t := 20) dX12_init_393 k_arr.1 rfl (by decide) (by decide) hn88.2.1 hn88.2.2.1 hn88.2.2.2.1 hn88.2.2.2.2.1 ?_
  generalize hShn90 : nw S87 20 31000 = S89
  generalize hVhn90 : clr (up V87 x0 60 r87) (S87.2.2 + 1) = V89
  generalize hrhn90 : S87.2.2 + 1 = r89 at hVhn90 ⊢
  generalize hmhn90 : mc87 - 1 = mc89
  generalize hkhn90 : ms87 - (31000 : Int).toNat = ms89
  have hn90 := hn88.2.2.2.2.2 S89 V89 r89 mc89 ms89 hrhn90.symm hShn90.symm hVhn90.symm hmhn90.symm hkhn90.symm
  refine X_putfield (ci := 12) (k := 61) (z := r89) dX12_init_395 rfl (by decide) kf_RX12_143 (Or.inr (Or.inr (Or.inr (Or.inr ⟨_, rfl⟩)))) (Or.inr ⟨rfl, rfl, rfl⟩) rfl (fun hv => hv) hn90.1 ?_
  refine X_aload_n dX12_init_398 rfl ?_
  refine X_bipush dX12_init_399 (by decide) (by decide) ?_
  refine X_newarr (t := 20) dX12_init_401 k_arr.1 rfl (by decide) (by decide) hn90.2.1 hn90.2.2.1 hn90.2.2.2.1 hn90.2.2.2.2.1 ?_
  generalize hShn92 : nw S89 20 10 = S91
  generalize hVhn92 : clr (up V89 x0 61 r89) (S89.2.2 + 1) = V91
  generalize hrhn92 : S89.2.2 + 1 = r91 at hVhn92 ⊢
  generalize hmhn92 : mc89 - 1 = mc91
  generalize hkhn92 : ms89 - (10 : Int).toNat = ms91
  have hn92 := hn90.2.2.2.2.2 S91 V91 r91 mc91 ms91 hrhn92.symm hShn92.symm hVhn92.symm hmhn92.symm hkhn92.symm
  refine X_putfield (ci := 12) (k := 62) (z := r91) dX12_init_403 rfl (by decide) kf_RX12_146 (Or.inr (Or.inr (Or.inr (Or.inr ⟨_, rfl⟩)))) (Or.inr ⟨rfl, rfl, rfl⟩) rfl (fun hv => hv) hn92.1 ?_
  refine X_aload_n dX12_init_406 rfl ?_
  refine X_bipush dX12_init_407 (by decide) (by decide) ?_
  refine X_newarr (t := 20) dX12_init_409 k_arr.1 rfl (by decide) (by decide) hn92.2.1 hn92.2.2.1 hn92.2.2.2.1 hn92.2.2.2.2.1 ?_
  generalize hShn94 : nw S91 20 13 = S93
  generalize hVhn94 : clr (up V91 x0 62 r91) (S91.2.2 + 1) = V93
  generalize hrhn94 : S91.2.2 + 1 = r93 at hVhn94 ⊢
  generalize hmhn94 : mc91 - 1 = mc93
  generalize hkhn94 : ms91 - (13 : Int).toNat = ms93
  have hn94 := hn92.2.2.2.2.2 S93 V93 r93 mc93 ms93 hrhn94.symm hShn94.symm hVhn94.symm hmhn94.symm hkhn94.symm
  refine X_putfield (ci := 12) (k := 63) (z := r93) dX12_init_411 rfl (by decide) kf_RX12_149 (Or.inr (Or.inr (Or.inr (Or.inr ⟨_, rfl⟩)))) (Or.inr ⟨rfl, rfl, rfl⟩) rfl (fun hv => hv) hn94.1 ?_
  refine X_aload_n dX12_init_414 rfl ?_
  refine X_bipush dX12_init_415 (by decide) (by decide) ?_
  refine X_newarr (t := 20) dX12_init_417 k_arr.1 rfl (by decide) (by decide) hn94.2.1 hn94.2.2.1 hn94.2.2.2.1 hn94.2.2.2.2.1 ?_
  generalize hShn96 : nw S93 20 40 = S95
  generalize hVhn96 : clr (up V93 x0 63 r93) (S93.2.2 + 1) = V95
  generalize hrhn96 : S93.2.2 + 1 = r95 at hVhn96 ⊢
  generalize hmhn96 : mc93 - 1 = mc95
  generalize hkhn96 : ms93 - (40 : Int).toNat = ms95
  have hn96 := hn94.2.2.2.2.2 S95 V95 r95 mc95 ms95 hrhn96.symm hShn96.symm hVhn96.symm hmhn96.symm hkhn96.symm
  refine X_putfield (ci := 12) (k := 66) (z := r95) dX12_init_419 rfl (by decide) kf_RX12_152 (Or.inr (Or.inr (Or.inr (Or.inr ⟨_, rfl⟩)))) (Or.inr ⟨rfl, rfl, rfl⟩) rfl (fun hv => hv) hn96.1 ?_
  refine X_aload_n dX12_init_422 rfl ?_
  refine X_bipush dX12_init_423 (by decide) (by decide) ?_
  refine X_newarr (t := 20) dX12_init_425 k_arr.1 rfl (by decide) (by decide) hn96.2.1 hn96.2.2.1 hn96.2.2.2.1 hn96.2.2.2.2.1 ?_
  generalize hShn98 : nw S95 20 40 = S97
  generalize hVhn98 : clr (up V95 x0 66 r95) (S95.2.2 + 1) = V97
  generalize hrhn98 : S95.2.2 + 1 = r97 at hVhn98 ⊢
  generalize hmhn98 : mc95 - 1 = mc97
  generalize hkhn98 : ms95 - (40 : Int).toNat = ms97
  have hn98 := hn96.2.2.2.2.2 S97 V97 r97 mc97 ms97 hrhn98.symm hShn98.symm hVhn98.symm hmhn98.symm hkhn98.symm
  refine X_putfield (ci := 12) (k := 67) (z := r97) dX12_init_427 rfl (by decide) kf_RX12_155 (Or.inr (Or.inr (Or.inr (Or.inr ⟨_, rfl⟩)))) (Or.inr ⟨rfl, rfl, rfl⟩) rfl (fun hv => hv) hn98.1 ?_
  refine X_aload_n dX12_init_430 rfl ?_
  refine X_bipush dX12_init_431 (by decide) (by decide) ?_
  refine X_newarr (t := 20) dX12_init_433 k_arr.1 rfl (by decide) (by decide) hn98.2.1 hn98.2.2.1 hn98.2.2.2.1 hn98.2.2.2.2.1 ?_
  generalize hShn100 : nw S97 20 40 = S99
  generalize hVhn100 : clr (up V97 x0 67 r97) (S97.2.2 + 1) = V99
  generalize hrhn100 : S97.2.2 + 1 = r99 at hVhn100 ⊢
  generalize hmhn100 : mc97 - 1 = mc99
  generalize hkhn100 : ms97 - (40 : Int).toNat = ms99
  have hn100 := hn98.2.2.2.2.2 S99 V99 r99 mc99 ms99 hrhn100.symm hShn100.symm hVhn100.symm hmhn100.symm hkhn100.symm
  refine X_putfield (ci := 12) (k := 70) (z := r99) dX12_init_435 rfl (by decide) kf_RX12_158 (Or.inr (Or.inr (Or.inr (Or.inr ⟨_, rfl⟩)))) (Or.inr ⟨rfl, rfl, rfl⟩) rfl (fun hv => hv) hn100.1 ?_
  refine X_aload_n dX12_init_438 rfl ?_
  refine X_bipush dX12_init_439 (by decide) (by decide) ?_
  refine X_newarr (t := 20) dX12_init_441 k_arr.1 rfl (by decide) (by decide) hn100.2.1 hn100.2.2.1 hn100.2.2.2.1 hn100.2.2.2.2.1 ?_
  generalize hShn102 : nw S99 20 40 = S101
  generalize hVhn102 : clr (up V99 x0 70 r99) (S99.2.2 + 1) = V101
  generalize hrhn102 : S99.2.2 + 1 = r101 at hVhn102 ⊢
  generalize hmhn102 : mc99 - 1 = mc101
  generalize hkhn102 : ms99 - (40 : Int).toNat = ms101
  have hn102 := hn100.2.2.2.2.2 S101 V101 r101 mc101 ms101 hrhn102.symm hShn102.symm hVhn102.symm hmhn102.symm hkhn102.symm
  refine X_putfield (ci := 12) (k := 71) (z := r101) dX12_init_443 rfl (by decide) kf_RX12_161 (Or.inr (Or.inr (Or.inr (Or.inr ⟨_, rfl⟩)))) (Or.inr ⟨rfl, rfl, rfl⟩) rfl (fun hv => hv) hn102.1 ?_
  refine X_aload_n dX12_init_446 rfl ?_
  refine X_bipush dX12_init_447 (by decide) (by decide) ?_
  refine X_newarr (t := 20) dX12_init_449 k_arr.1 rfl (by decide) (by decide) hn102.2.1 hn102.2.2.1 hn102.2.2.2.1 hn102.2.2.2.2.1 ?_
  generalize hShn104 : nw S101 20 10 = S103
  generalize hVhn104 : clr (up V101 x0 71 r101) (S101.2.2 + 1) = V103
  generalize hrhn104 : S101.2.2 + 1 = r103 at hVhn104 ⊢
  generalize hmhn104 : mc101 - 1 = mc103
  generalize hkhn104 : ms101 - (10 : Int).toNat = ms103
  have hn104 := hn102.2.2.2.2.2 S103 V103 r103 mc103 ms103 hrhn104.symm hShn104.symm hVhn104.symm hmhn104.symm hkhn104.symm
  refine X_putfield (ci := 12) (k := 73) (z := r103) dX12_init_451 rfl (by decide) kf_RX12_164 (Or.inr (Or.inr (Or.inr (Or.inr ⟨_, rfl⟩)))) (Or.inr ⟨rfl, rfl, rfl⟩) rfl (fun hv => hv) hn104.1 ?_
  refine X_aload_n dX12_init_454 rfl ?_
  refine X_bipush dX12_init_455 (by decide) (by decide) ?_
  refine X_newarr (t := 20) dX12_init_457 k_arr.1 rfl (by decide) (by decide) hn104.2.1 hn104.2.2.1 hn104.2.2.2.1 hn104.2.2.2.2.1 ?_
  generalize hShn106 : nw S103 20 10 = S105
  generalize hVhn106 : clr (up V103 x0 73 r103) (S103.2.2 + 1) = V105
  generalize hrhn106 : S103.2.2 + 1 = r105 at hVhn106 ⊢
  generalize hmhn106 : mc103 - 1 = mc105
  generalize hkhn106 : ms103 - (10 : Int).toNat = ms105
  have hn106 := hn104.2.2.2.2.2 S105 V105 r105 mc105 ms105 hrhn106.symm hShn106.symm hVhn106.symm hmhn106.symm hkhn106.symm
  refine X_putfield (ci := 12) (k := 74) (z := r105) dX12_init_459 rfl (by decide) kf_RX12_167 (Or.inr (Or.inr (Or.inr (Or.inr ⟨_, rfl⟩)))) (Or.inr ⟨rfl, rfl, rfl⟩) rfl (fun hv => hv) hn106.1 ?_
  refine X_aload_n dX12_init_462 rfl ?_
  refine X_sipush dX12_init_463 (by decide) (by decide) ?_
  refine X_newarr (t := 20) dX12_init_466 k_arr.1 rfl (by decide) (by decide) hn106.2.1 hn106.2.2.1 hn106.2.2.2.1 hn106.2.2.2.2.1 ?_
  generalize hShn108 : nw S105 20 240 = S107
  generalize hVhn108 : clr (up V105 x0 74 r105) (S105.2.2 + 1) = V107
  generalize hrhn108 : S105.2.2 + 1 = r107 at hVhn108 ⊢
  generalize hmhn108 : mc105 - 1 = mc107
  generalize hkhn108 : ms105 - (240 : Int).toNat = ms107
  have hn108 := hn106.2.2.2.2.2 S107 V107 r107 mc107 ms107 hrhn108.symm hShn108.symm hVhn108.symm hmhn108.symm hkhn108.symm
  refine X_putfield (ci := 12) (k := 75) (z := r107) dX12_init_468 rfl (by decide) kf_RX12_170 (Or.inr (Or.inr (Or.inr (Or.inr ⟨_, rfl⟩)))) (Or.inr ⟨rfl, rfl, rfl⟩) rfl (fun hv => hv) hn108.1 ?_
  refine X_aload_n dX12_init_471 rfl ?_
  refine X_bipush dX12_init_472 (by decide) (by decide) ?_
  refine X_newarr (t := 20) dX12_init_474 k_arr.1 rfl (by decide) (by decide) hn108.2.1 hn108.2.2.1 hn108.2.2.2.1 hn108.2.2.2.2.1 ?_
  generalize hShn110 : nw S107 20 20 = S109
  generalize hVhn110 : clr (up V107 x0 75 r107) (S107.2.2 + 1) = V109
  generalize hrhn110 : S107.2.2 + 1 = r109 at hVhn110 ⊢
  generalize hmhn110 : mc107 - 1 = mc109
  generalize hkhn110 : ms107 - (20 : Int).toNat = ms109
  have hn110 := hn108.2.2.2.2.2 S109 V109 r109 mc109 ms109 hrhn110.symm hShn110.symm hVhn110.symm hmhn110.symm hkhn110.symm
  refine X_putfield (ci := 12) (k := 77) (z := r109) dX12_init_476 rfl (by decide) kf_RX12_173 (Or.inr (Or.inr (Or.inr (Or.inr ⟨_, rfl⟩)))) (Or.inr ⟨rfl, rfl, rfl⟩) rfl (fun hv => hv) hn110.1 ?_
  refine X_aload_n dX12_init_479 rfl ?_
  refine X_bipush dX12_init_480 (by decide) (by decide) ?_
  refine X_newarr (t := 20) dX12_init_482 k_arr.1 rfl (by decide) (by decide) hn110.2.1 hn110.2.2.1 hn110.2.2.2.1 hn110.2.2.2.2.1 ?_
  generalize hShn112 : nw S109 20 20 = S111
  generalize hVhn112 : clr (up V109 x0 77 r109) (S109.2.2 + 1) = V111
  generalize hrhn112 : S109.2.2 + 1 = r111 at hVhn112 ⊢
  generalize hmhn112 : mc109 - 1 = mc111
  generalize hkhn112 : ms109 - (20 : Int).toNat = ms111
  have hn112 := hn110.2.2.2.2.2 S111 V111 r111 mc111 ms111 hrhn112.symm hShn112.symm hVhn112.symm hmhn112.symm hkhn112.symm
  refine X_putfield (ci := 12) (k := 78) (z := r111) dX12_init_484 rfl (by decide) kf_RX12_176 (Or.inr (Or.inr (Or.inr (Or.inr ⟨_, rfl⟩)))) (Or.inr ⟨rfl, rfl, rfl⟩) rfl (fun hv => hv) hn112.1 ?_
  refine X_aload_n dX12_init_487 rfl ?_
  refine X_sipush dX12_init_488 (by decide) (by decide) ?_
  refine X_newarr (t := 20) dX12_init_491 k_arr.1 rfl (by decide) (by decide) hn112.2.1 hn112.2.2.1 hn112.2.2.2.1 hn112.2.2.2.2.1 ?_
  generalize hShn114 : nw S111 20 1220 = S113
  generalize hVhn114 : clr (up V111 x0 78 r111) (S111.2.2 + 1) = V113
  generalize hrhn114 : S111.2.2 + 1 = r113 at hVhn114 ⊢
  generalize hmhn114 : mc111 - 1 = mc113
  generalize hkhn114 : ms111 - (1220 : Int).toNat = ms113
  have hn114 := hn112.2.2.2.2.2 S113 V113 r113 mc113 ms113 hrhn114.symm hShn114.symm hVhn114.symm hmhn114.symm hkhn114.symm
  refine X_putfield (ci := 12) (k := 79) (z := r113) dX12_init_493 rfl (by decide) kf_RX12_179 (Or.inr (Or.inr (Or.inr (Or.inr ⟨_, rfl⟩)))) (Or.inr ⟨rfl, rfl, rfl⟩) rfl (fun hv => hv) hn114.1 ?_
  refine X_aload_n dX12_init_496 rfl ?_
  refine X_sipush dX12_init_497 (by decide) (by decide) ?_
  refine X_newarr (t := 20) dX12_init_500 k_arr.1 rfl (by decide) (by decide) hn114.2.1 hn114.2.2.1 hn114.2.2.2.1 hn114.2.2.2.2.1 ?_
  generalize hShn116 : nw S113 20 1220 = S115
  generalize hVhn116 : clr (up V113 x0 79 r113) (S113.2.2 + 1) = V115
  generalize hrhn116 : S113.2.2 + 1 = r115 at hVhn116 ⊢
  generalize hmhn116 : mc113 - 1 = mc115
  generalize hkhn116 : ms113 - (1220 : Int).toNat = ms115
  have hn116 := hn114.2.2.2.2.2 S115 V115 r115 mc115 ms115 hrhn116.symm hShn116.symm hVhn116.symm hmhn116.symm hkhn116.symm
  refine X_putfield (ci := 12) (k := 80) (z := r115) dX12_init_502 rfl (by decide) kf_RX12_182 (Or.inr (Or.inr (Or.inr (Or.inr ⟨_, rfl⟩)))) (Or.inr ⟨rfl, rfl, rfl⟩) rfl (fun hv => hv) hn116.1 ?_
  refine X_aload_n dX12_init_505 rfl ?_
  refine X_sipush dX12_init_506 (by decide) (by decide) ?_
  refine X_newarr (t := 21) dX12_init_509 k_arr.2.1 rfl (by decide) (by decide) hn116.2.1 hn116.2.2.1 hn116.2.2.2.1 hn116.2.2.2.2.1 ?_
  generalize hShn118 : nw S115 21 3000 = S117
  generalize hVhn118 : clr (up V115 x0 80 r115) (S115.2.2 + 1) = V117
  generalize hrhn118 : S115.2.2 + 1 = r117 at hVhn118 ⊢
  generalize hmhn118 : mc115 - 1 = mc117
  generalize hkhn118 : ms115 - (3000 : Int).toNat = ms117
  have hn118 := hn116.2.2.2.2.2 S117 V117 r117 mc117 ms117 hrhn118.symm hShn118.symm hVhn118.symm hmhn118.symm hkhn118.symm
  refine X_putfield (ci := 12) (k := 82) (z := r117) dX12_init_511 rfl (by decide) kf_RX12_185 (Or.inr (Or.inr (Or.inr (Or.inr ⟨_, rfl⟩)))) (Or.inr ⟨rfl, rfl, rfl⟩) rfl (fun hv => hv) hn118.1 ?_
  exact X_ret (z := 0) dX12_init_514 rfl (fun _ => trivial) hn118.2
theorem qX12_init {l : Launch} {G : GT} {Q : Int → Sh → Mem → Prop} {d : Nat} {S : Sh} {V : Mem} {mc ms : Nat} {x0 : Int} (h : 0 ≤ x0 → XJ l G bX12_init Q d 0 [vr x0] [] S V mc ms) : Ct l G bX12_init Q d mc ms [vr x0] S V := Ct.of okX12_init.1 trivial (Nat.le_of_ble_eq_true rfl) (fun hv => h (hv _ (List.mem_of_getElem? (i := 0) rfl)))
set_option maxRecDepth 10000 in
theorem vX12_feed_0 {l : Launch} {G : GT} {Q : Int → Sh → Mem → Prop} {d : Nat} {S : Sh} {V : Mem} {mc ms : Nat} {x0 x1 x3 : Int} (h : (x3 < 1 → Q (-4) S V) ∧ (¬ (x3 < 1) → (x3 ≤ 8 → S.1 x0 = 13 ∧ -2147483648 ≤ (V x0 2) + x3 ∧ (V x0 2) + x3 ≤ 2147483647 ∧ (((V x0 2) + x3) ≤ 3000 → -2147483648 ≤ x3 - 1 ∧ x3 - 1 ≤ 2147483647 ∧ XJ l G bX12_feed Q d 34 [vr x0, vl x1, vu, vi x3, vi (x3 - 1)] [] S V mc ms) ∧ (¬ (((V x0 2) + x3) ≤ 3000) → Q (-2) S V)) ∧ (¬ (x3 ≤ 8) → Q (-4) S V))) : XJ l G bX12_feed Q d 0 [vr x0, vl x1, vu, vi x3, vu] [] S V mc ms := by
  refine X_iload_n dX12_feed_0 rfl ?_
  refine X_iconst dX12_feed_1 (by decide) ?_
  refine X_icmp_lt dX12_feed_2 (tgt := 11) rfl (fun c1 => ?_) (fun c1 => ?_)
  · refine X_bipush dX12_feed_11 (by decide) (by decide) ?_
    exact X_ret (z := (-4)) dX12_feed_13 rfl (fun hv => vok_h hv) (h.1 c1)
  · refine X_iload_n dX12_feed_5 rfl ?_
    refine X_bipush dX12_feed_6 (by decide) (by decide) ?_
    refine X_icmp_le dX12_feed_8 (tgt := 14) rfl (fun c2 => ?_) (fun c2 => ?_)
    · refine X_aload_n dX12_feed_14 rfl ?_
      refine X_getfield (ci := 12) (k := 2) (v := vi (V x0 2)) dX12_feed_15 rfl (by decide) kf_RX12_192 rfl ((h.2 c1).1 c2).1 ?_
      refine X_iload_n dX12_feed_18 rfl ?_
      refine X_iaddN dX12_feed_19 ((h.2 c1).1 c2).2.1 ((h.2 c1).1 c2).2.2.1 ?_
      refine X_sipush dX12_feed_20 (by decide) (by decide) ?_
      refine X_icmp_le dX12_feed_23 (tgt := 29) rfl (fun c3 => ?_) (fun c3 => ?_)
      · refine X_iload_n dX12_feed_29 rfl ?_
        refine X_iconst dX12_feed_30 (by decide) ?_
        refine X_isubN dX12_feed_31 (((h.2 c1).1 c2).2.2.2.1 c3).1 (((h.2 c1).1 c2).2.2.2.1 c3).2.1 ?_
        refine X_istore dX12_feed_32 (by decide) rfl ?_
        exact (((h.2 c1).1 c2).2.2.2.1 c3).2.2
      · refine X_bipush dX12_feed_26 (by decide) (by decide) ?_
        exact X_ret (z := (-2)) dX12_feed_28 rfl (fun hv => vok_h hv) (((h.2 c1).1 c2).2.2.2.2 c3)
    · refine X_bipush dX12_feed_11 (by decide) (by decide) ?_
      exact X_ret (z := (-4)) dX12_feed_13 rfl (fun hv => vok_h hv) ((h.2 c1).2 c2)
set_option maxRecDepth 10000 in
theorem vX12_feed_34 {l : Launch} {G : GT} {Q : Int → Sh → Mem → Prop} {d : Nat} {S : Sh} {V : Mem} {mc ms : Nat} {x0 x1 x3 x4 : Int} (h : (x4 < 0 → S.1 x0 = 13 ∧ Q (V x0 2) S V) ∧ (¬ (x4 < 0) → S.1 x0 = 13 ∧ -2147483648 ≤ 8 * x4 ∧ 8 * x4 ≤ 2147483647 ∧ S.1 (V x0 1) = 21 ∧ 0 ≤ (V x0 2) ∧ (V x0 2) < S.2.1 (V x0 1) ∧ -2147483648 ≤ (V x0 2) + 1 ∧ (V x0 2) + 1 ≤ 2147483647 ∧ -2147483648 ≤ x4 - 1 ∧ x4 - 1 ≤ 2147483647 ∧ XJ l G bX12_feed Q d 34 [vr x0, vl x1, vu, vi x3, vi (x4 - 1)] [] S (up (up V (V x0 1) (V x0 2) (wb (wb (wr (lShr x1 (8 * x4)))))) x0 2 ((V x0 2) + 1)) mc ms)) : XJ l G bX12_feed Q d 34 [vr x0, vl x1, vu, vi x3, vi x4] [] S V mc ms := by
  refine X_iload dX12_feed_34 rfl ?_
  refine X_if_lt dX12_feed_36 (tgt := 73) rfl (fun c1 => ?_) (fun c1 => ?_)
  · refine X_aload_n dX12_feed_73 rfl ?_
    refine X_getfield (ci := 12) (k := 2) (v := vi (V x0 2)) dX12_feed_74 rfl (by decide) kf_RX12_192 rfl (h.1 c1).1 ?_
    exact X_ret (z := (V x0 2)) dX12_feed_77 rfl (fun hv => vok_h hv) (h.1 c1).2
  · refine X_aload_n dX12_feed_39 rfl ?_
    refine X_getfield (ci := 12) (k := 1) (v := vr (V x0 1)) dX12_feed_40 rfl (by decide) kf_RX12_7 rfl (h.2 c1).1 ?_
    refine X_aload_n dX12_feed_43 rfl ?_
    refine X_getfield (ci := 12) (k := 2) (v := vi (V x0 2)) dX12_feed_44 rfl (by decide) kf_RX12_192 rfl (h.2 c1).1 ?_
    refine X_lload_n dX12_feed_47 rfl ?_
    refine X_bipush dX12_feed_48 (by decide) (by decide) ?_
    refine X_iload dX12_feed_50 rfl ?_
    refine X_imulN dX12_feed_52 (h.2 c1).2.1 (h.2 c1).2.2.1 ?_
    refine X_lshr dX12_feed_53 ?_
    refine X_l2i dX12_feed_54 ?_
    refine X_i2b dX12_feed_55 ?_
    refine X_bastore dX12_feed_56 (h.2 c1).2.2.2.1 (h.2 c1).2.2.2.2.1 (h.2 c1).2.2.2.2.2.1 ?_
    refine X_aload_n dX12_feed_57 rfl ?_
    refine X_dup dX12_feed_58 (rv_cat _) ?_
    refine X_getfield (ci := 12) (k := 2) (v := vi (V x0 2)) dX12_feed_59 rfl (by decide) kf_RX12_192 (congrArg vi (up_ne (Or.inl (tag_ne (h.2 c1).1 (h.2 c1).2.2.2.1 (by decide))))) (h.2 c1).1 ?_
    refine X_iconst dX12_feed_62 (by decide) ?_
    refine X_iaddN dX12_feed_63 (h.2 c1).2.2.2.2.2.2.1 (h.2 c1).2.2.2.2.2.2.2.1 ?_
    refine X_putfield (ci := 12) (k := 2) (z := ((V x0 2) + 1)) dX12_feed_64 rfl (by decide) kf_RX12_192 (Or.inl rfl) (Or.inl rfl) rfl (fun hv => hv) (h.2 c1).1 ?_
    refine X_iincN dX12_feed_67 rfl (by decide) rfl (e := x4 - 1) Int.sub_eq_add_neg (h.2 c1).2.2.2.2.2.2.2.2.1 (h.2 c1).2.2.2.2.2.2.2.2.2.1 ?_
    refine X_goto dX12_feed_70 (tgt := 34) rfl ?_
    exact (h.2 c1).2.2.2.2.2.2.2.2.2.2
theorem qX12_feed {l : Launch} {G : GT} {Q : Int → Sh → Mem → Prop} {d : Nat} {S : Sh} {V : Mem} {mc ms : Nat} {x0 x1 x3 : Int} (h : 0 ≤ x0 → inL x1 → inI x3 → XJ l G bX12_feed Q d 0 [vr x0, vl x1, vu, vi x3, vu] [] S V mc ms) : Ct l G bX12_feed Q d mc ms [vr x0, vl x1, vi x3] S V := Ct.of okX12_feed.1 trivial (Nat.le_of_ble_eq_true rfl) (fun hv => h (hv _ (List.mem_of_getElem? (i := 0) rfl)) (hv _ (List.mem_of_getElem? (i := 1) rfl)) (hv _ (List.mem_of_getElem? (i := 2) rfl)))
set_option maxRecDepth 10000 in
theorem vX12_cut_0 {l : Launch} {G : GT} {Q : Int → Sh → Mem → Prop} {d : Nat} {S : Sh} {V : Mem} {mc ms : Nat} {x0 x1 : Int} (h : (x1 < 0 → Q (-4) S V) ∧ (¬ (x1 < 0) → S.1 x0 = 13 ∧ (x1 ≤ (V x0 2) → Q x1 S (up V x0 2 x1)) ∧ (¬ (x1 ≤ (V x0 2)) → Q (-4) S V))) : XJ l G bX12_cut Q d 0 [vr x0, vi x1] [] S V mc ms := by
  refine X_iload_n dX12_cut_0 rfl ?_
  refine X_if_lt dX12_cut_1 (tgt := 12) rfl (fun c1 => ?_) (fun c1 => ?_)
  · refine X_bipush dX12_cut_12 (by decide) (by decide) ?_
    exact X_ret (z := (-4)) dX12_cut_14 rfl (fun hv => vok_h hv) (h.1 c1)
  · refine X_iload_n dX12_cut_4 rfl ?_
    refine X_aload_n dX12_cut_5 rfl ?_
    refine X_getfield (ci := 12) (k := 2) (v := vi (V x0 2)) dX12_cut_6 rfl (by decide) kf_RX12_192 rfl (h.2 c1).1 ?_
    refine X_icmp_le dX12_cut_9 (tgt := 15) rfl (fun c2 => ?_) (fun c2 => ?_)
    · refine X_aload_n dX12_cut_15 rfl ?_
      refine X_iload_n dX12_cut_16 rfl ?_
      refine X_putfield (ci := 12) (k := 2) (z := x1) dX12_cut_17 rfl (by decide) kf_RX12_192 (Or.inl rfl) (Or.inl rfl) rfl (fun hv => hv) (h.2 c1).1 ?_
      refine X_iload_n dX12_cut_20 rfl ?_
      exact X_ret (z := x1) dX12_cut_21 rfl (fun hv => vok_h hv) ((h.2 c1).2.1 c2)
    · refine X_bipush dX12_cut_12 (by decide) (by decide) ?_
      exact X_ret (z := (-4)) dX12_cut_14 rfl (fun hv => vok_h hv) ((h.2 c1).2.2 c2)
theorem qX12_cut {l : Launch} {G : GT} {Q : Int → Sh → Mem → Prop} {d : Nat} {S : Sh} {V : Mem} {mc ms : Nat} {x0 x1 : Int} (h : 0 ≤ x0 → inI x1 → XJ l G bX12_cut Q d 0 [vr x0, vi x1] [] S V mc ms) : Ct l G bX12_cut Q d mc ms [vr x0, vi x1] S V := Ct.of okX12_cut.1 trivial (Nat.le_of_ble_eq_true rfl) (fun hv => h (hv _ (List.mem_of_getElem? (i := 0) rfl)) (hv _ (List.mem_of_getElem? (i := 1) rfl)))
set_option maxRecDepth 10000 in
theorem vX12_isLetter_0 {l : Launch} {G : GT} {Q : Int → Sh → Mem → Prop} {d : Nat} {S : Sh} {V : Mem} {mc ms : Nat} {x0 : Int} (h : (x0 < 97 → (x0 < 65 → Q 0 S V) ∧ (¬ (x0 < 65) → (90 < x0 → Q 0 S V) ∧ (¬ (90 < x0) → Q 1 S V))) ∧ (¬ (x0 < 97) → (x0 ≤ 122 → Q 1 S V) ∧ (¬ (x0 ≤ 122) → (x0 < 65 → Q 0 S V) ∧ (¬ (x0 < 65) → (90 < x0 → Q 0 S V) ∧ (¬ (90 < x0) → Q 1 S V))))) : XJ l G bX12_isLetter Q d 0 [vi x0] [] S V mc ms := by
  refine X_iload_n dX12_isLetter_0 rfl ?_
  refine X_bipush dX12_isLetter_1 (by decide) (by decide) ?_
  refine X_icmp_lt dX12_isLetter_3 (tgt := 12) rfl (fun c1 => ?_) (fun c1 => ?_)
  · refine X_iload_n dX12_isLetter_12 rfl ?_
    refine X_bipush dX12_isLetter_13 (by decide) (by decide) ?_
    refine X_icmp_lt dX12_isLetter_15 (tgt := 28) rfl (fun c2 => ?_) (fun c2 => ?_)
    · refine X_iconst dX12_isLetter_28 (by decide) ?_
      exact X_ret (z := 0) dX12_isLetter_29 rfl (fun _ => Or.inl rfl) ((h.1 c1).1 c2)
    · refine X_iload_n dX12_isLetter_18 rfl ?_
      refine X_bipush dX12_isLetter_19 (by decide) (by decide) ?_
      refine X_icmp_gt dX12_isLetter_21 (tgt := 28) rfl (fun c3 => ?_) (fun c3 => ?_)
      · refine X_iconst dX12_isLetter_28 (by decide) ?_
        exact X_ret (z := 0) dX12_isLetter_29 rfl (fun _ => Or.inl rfl) (((h.1 c1).2 c2).1 c3)
      · refine X_iconst dX12_isLetter_24 (by decide) ?_
        refine X_goto dX12_isLetter_25 (tgt := 29) rfl ?_
        exact X_ret (z := 1) dX12_isLetter_29 rfl (fun _ => Or.inr rfl) (((h.1 c1).2 c2).2 c3)
  · refine X_iload_n dX12_isLetter_6 rfl ?_
    refine X_bipush dX12_isLetter_7 (by decide) (by decide) ?_
    refine X_icmp_le dX12_isLetter_9 (tgt := 24) rfl (fun c4 => ?_) (fun c4 => ?_)
    · refine X_iconst dX12_isLetter_24 (by decide) ?_
      refine X_goto dX12_isLetter_25 (tgt := 29) rfl ?_
      exact X_ret (z := 1) dX12_isLetter_29 rfl (fun _ => Or.inr rfl) ((h.2 c1).1 c4)
    · refine X_iload_n dX12_isLetter_12 rfl ?_
      refine X_bipush dX12_isLetter_13 (by decide) (by decide) ?_
      refine X_icmp_lt dX12_isLetter_15 (tgt := 28) rfl (fun c5 => ?_) (fun c5 => ?_)
      · refine X_iconst dX12_isLetter_28 (by decide) ?_
        exact X_ret (z := 0) dX12_isLetter_29 rfl (fun _ => Or.inl rfl) (((h.2 c1).2 c4).1 c5)
      · refine X_iload_n dX12_isLetter_18 rfl ?_
        refine X_bipush dX12_isLetter_19 (by decide) (by decide) ?_
        refine X_icmp_gt dX12_isLetter_21 (tgt := 28) rfl (fun c6 => ?_) (fun c6 => ?_)
        · refine X_iconst dX12_isLetter_28 (by decide) ?_
          exact X_ret (z := 0) dX12_isLetter_29 rfl (fun _ => Or.inl rfl) ((((h.2 c1).2 c4).2 c5).1 c6)
        · refine X_iconst dX12_isLetter_24 (by decide) ?_
          refine X_goto dX12_isLetter_25 (tgt := 29) rfl ?_
          exact X_ret (z := 1) dX12_isLetter_29 rfl (fun _ => Or.inr rfl) ((((h.2 c1).2 c4).2 c5).2 c6)
theorem qX12_isLetter {l : Launch} {G : GT} {Q : Int → Sh → Mem → Prop} {d : Nat} {S : Sh} {V : Mem} {mc ms : Nat} {x0 : Int} (h : inI x0 → XJ l G bX12_isLetter Q d 0 [vi x0] [] S V mc ms) : Ct l G bX12_isLetter Q d mc ms [vi x0] S V := Ct.of okX12_isLetter.1 trivial (Nat.le_of_ble_eq_true rfl) (fun hv => h (hv _ (List.mem_of_getElem? (i := 0) rfl)))
set_option maxRecDepth 10000 in
theorem vX12_isDigit_0 {l : Launch} {G : GT} {Q : Int → Sh → Mem → Prop} {d : Nat} {S : Sh} {V : Mem} {mc ms : Nat} {x0 : Int} (h : (x0 < 48 → Q 0 S V) ∧ (¬ (x0 < 48) → (57 < x0 → Q 0 S V) ∧ (¬ (57 < x0) → Q 1 S V))) : XJ l G bX12_isDigit Q d 0 [vi x0] [] S V mc ms := by
  refine X_iload_n dX12_isDigit_0 rfl ?_
  refine X_bipush dX12_isDigit_1 (by decide) (by decide) ?_
  refine X_icmp_lt dX12_isDigit_3 (tgt := 16) rfl (fun c1 => ?_) (fun c1 => ?_)
  · refine X_iconst dX12_isDigit_16 (by decide) ?_
    exact X_ret (z := 0) dX12_isDigit_17 rfl (fun _ => Or.inl rfl) (h.1 c1)
  · refine X_iload_n dX12_isDigit_6 rfl ?_
    refine X_bipush dX12_isDigit_7 (by decide) (by decide) ?_
    refine X_icmp_gt dX12_isDigit_9 (tgt := 16) rfl (fun c2 => ?_) (fun c2 => ?_)
    · refine X_iconst dX12_isDigit_16 (by decide) ?_
      exact X_ret (z := 0) dX12_isDigit_17 rfl (fun _ => Or.inl rfl) ((h.2 c1).1 c2)
    · refine X_iconst dX12_isDigit_12 (by decide) ?_
      refine X_goto dX12_isDigit_13 (tgt := 17) rfl ?_
      exact X_ret (z := 1) dX12_isDigit_17 rfl (fun _ => Or.inr rfl) ((h.2 c1).2 c2)
theorem qX12_isDigit {l : Launch} {G : GT} {Q : Int → Sh → Mem → Prop} {d : Nat} {S : Sh} {V : Mem} {mc ms : Nat} {x0 : Int} (h : inI x0 → XJ l G bX12_isDigit Q d 0 [vi x0] [] S V mc ms) : Ct l G bX12_isDigit Q d mc ms [vi x0] S V := Ct.of okX12_isDigit.1 trivial (Nat.le_of_ble_eq_true rfl) (fun hv => h (hv _ (List.mem_of_getElem? (i := 0) rfl)))
set_option maxRecDepth 10000 in
theorem vX12_at_0 {l : Launch} {G : GT} {Q : Int → Sh → Mem → Prop} {d : Nat} {S : Sh} {V : Mem} {mc ms : Nat} {x0 x1 : Int} (h : S.1 x0 = 13 ∧ ((V x0 2) ≤ x1 → Q 0 S V) ∧ (¬ ((V x0 2) ≤ x1) → S.1 (V x0 1) = 21 ∧ 0 ≤ x1 ∧ x1 < S.2.1 (V x0 1) ∧ Q (bAnd (V (V x0 1) x1) 255) S V)) : XJ l G bX12_at Q d 0 [vr x0, vi x1] [] S V mc ms := by
  refine X_iload_n dX12_at_0 rfl ?_
  refine X_aload_n dX12_at_1 rfl ?_
  refine X_getfield (ci := 12) (k := 2) (v := vi (V x0 2)) dX12_at_2 rfl (by decide) kf_RX12_192 rfl h.1 ?_
  refine X_icmp_ge dX12_at_5 (tgt := 21) rfl (fun c1 => ?_) (fun c1 => ?_)
  · refine X_iconst dX12_at_21 (by decide) ?_
    exact X_ret (z := 0) dX12_at_22 rfl (fun hv => vok_h hv) (h.2.1 c1)
  · refine X_aload_n dX12_at_8 rfl ?_
    refine X_getfield (ci := 12) (k := 1) (v := vr (V x0 1)) dX12_at_9 rfl (by decide) kf_RX12_7 rfl h.1 ?_
    refine X_iload_n dX12_at_12 rfl ?_
    refine X_baload dX12_at_13 (h.2.2 c1).1 (h.2.2 c1).2.1 (h.2.2 c1).2.2.1 ?_
    refine X_sipush dX12_at_14 (by decide) (by decide) ?_
    refine X_iand dX12_at_17 ?_
    refine X_goto dX12_at_18 (tgt := 22) rfl ?_
    exact X_ret (z := (bAnd (V (V x0 1) x1) 255)) dX12_at_22 rfl (fun hv => vok_h hv) (h.2.2 c1).2.2.2
theorem qX12_at {l : Launch} {G : GT} {Q : Int → Sh → Mem → Prop} {d : Nat} {S : Sh} {V : Mem} {mc ms : Nat} {x0 x1 : Int} (h : 0 ≤ x0 → inI x1 → XJ l G bX12_at Q d 0 [vr x0, vi x1] [] S V mc ms) : Ct l G bX12_at Q d mc ms [vr x0, vi x1] S V := Ct.of okX12_at.1 trivial (Nat.le_of_ble_eq_true rfl) (fun hv => h (hv _ (List.mem_of_getElem? (i := 0) rfl)) (hv _ (List.mem_of_getElem? (i := 1) rfl)))
set_option maxRecDepth 10000 in
theorem vX12_next_0 {l : Launch} {G : GT} {Q : Int → Sh → Mem → Prop} {d : Nat} {S : Sh} {V : Mem} {mc ms : Nat} {x0 : Int} (h : S.1 x0 = 13 ∧ XJ l G bX12_next Q d 8 [vr x0, vu, vu, vu, vu] [] S (up V x0 4 (V x0 5)) mc ms) : XJ l G bX12_next Q d 0 [vr x0, vu, vu, vu, vu] [] S V mc ms := by
  refine X_aload_n dX12_next_0 rfl ?_
  refine X_aload_n dX12_next_1 rfl ?_
  refine X_getfield (ci := 12) (k := 5) (v := vi (V x0 5)) dX12_next_2 rfl (by decide) kf_RX12_195 rfl h.1 ?_
  refine X_putfield (ci := 12) (k := 4) (z := (V x0 5)) dX12_next_5 rfl (by decide) kf_RX12_198 (Or.inl rfl) (Or.inl rfl) rfl (fun hv => hv) h.1 ?_
  exact h.2
set_option maxRecDepth 10000 in
theorem vX12_next_8 {l : Launch} {G : GT} {Q : Int → Sh → Mem → Prop} {d : Nat} {S : Sh} {V : Mem} {mc ms : Nat} {x0 : Int} (h : S.1 x0 = 13 ∧ CT l G bX12_at d mc ms [vr x0, vi (V x0 4)] S V (fun z1 S1 V1 mc1 ms1 => (z1 = 32 → S1.1 x0 = 13 ∧ -2147483648 ≤ (V1 x0 4) + 1 ∧ (V1 x0 4) + 1 ≤ 2147483647 ∧ XJ l G bX12_next Q d 8 [vr x0, vu, vu, vu, vu] [] S1 (up V1 x0 4 ((V1 x0 4) + 1)) mc1 ms1) ∧ (¬ (z1 = 32) → S1.1 x0 = 13 ∧ CT l G bX12_at d mc1 ms1 [vr x0, vi (V1 x0 4)] S1 V1 (fun z4 S4 V4 mc4 ms4 => (z4 ≠ 10 → S4.1 x0 = 13 ∧ CT l G bX12_at d mc4 ms4 [vr x0, vi (V4 x0 4)] S4 (up V4 x0 5 (V4 x0 4)) (fun z7 S7 V7 mc7 ms7 => S7.1 x0 = 13 ∧ ((V7 x0 4) < (V7 x0 2) → CT l G bX12_isLetter d mc7 ms7 [vi z7] S7 V7 (fun z10 S10 V10 mc10 ms10 => (z10 ≠ 0 → XJ l G bX12_next Q d 115 [vr x0, vi z7, vi 0, vu, vu] [] S10 V10 mc10 ms10) ∧ (¬ (z10 ≠ 0) → CT l G bX12_isDigit d mc10 ms10 [vi z7] S10 V10 (fun z13 S13 V13 mc13 ms13 => (z13 = 0 → S13.1 x0 = 13 ∧ -2147483648 ≤ (V13 x0 5) + 1 ∧ (V13 x0 5) + 1 ≤ 2147483647 ∧ CT l G bJ0_indexOf_0f7a4 d mc13 ms13 [vr ((G.2.2.2.1 3 : Int) + 1), vi z7] S13 (up V13 x0 5 ((V13 x0 5) + 1)) (fun z16 S16 V16 mc16 ms16 => (z16 < 0 → S16.1 x0 = 13 ∧ Q 0 S16 (up V16 x0 3 1)) ∧ (¬ (z16 < 0) → S16.1 x0 = 13 ∧ Q 0 S16 (up V16 x0 3 4)))) ∧ (¬ (z13 = 0) → XJ l G bX12_next Q d 115 [vr x0, vi z7, vi 0, vu, vu] [] S13 V13 mc13 ms13))))) ∧ (¬ ((V7 x0 4) < (V7 x0 2)) → Q 0 S7 (up (up (up V7 x0 4 (V7 x0 2)) x0 5 (V7 x0 2)) x0 3 0)))) ∧ (¬ (z4 ≠ 10) → S4.1 x0 = 13 ∧ -2147483648 ≤ (V4 x0 4) + 1 ∧ (V4 x0 4) + 1 ≤ 2147483647 ∧ XJ l G bX12_next Q d 8 [vr x0, vu, vu, vu, vu] [] S4 (up V4 x0 4 ((V4 x0 4) + 1)) mc4 ms4))))) : XJ l G bX12_next Q d 8 [vr x0, vu, vu, vu, vu] [] S V mc ms := by
  refine X_aload_n dX12_next_8 rfl ?_
  refine X_aload_n dX12_next_9 rfl ?_
  refine X_getfield (ci := 12) (k := 4) (v := vi (V x0 4)) dX12_next_10 rfl (by decide) kf_RX12_198 rfl h.1 ?_
  refine X_invV (ci := 12) (as := [vi (V x0 4)]) (st := []) okX12_at dX12_next_13 km_RX12_201 rfl rfl (Nat.le_of_ble_eq_true rfl) rfl rfl h.1 (CT.imp h.2 (fun z1 S1 V1 mc1 ms1 hc2 => ?_))
  refine X_bipush dX12_next_16 (by decide) (by decide) ?_
  refine X_icmp_eq dX12_next_18 (tgt := 34) rfl (fun c3 => ?_) (fun c3 => ?_)
  · refine X_aload_n dX12_next_34 rfl ?_
    refine X_dup dX12_next_35 (rv_cat _) ?_
    refine X_getfield (ci := 12) (k := 4) (v := vi (V1 x0 4)) dX12_next_36 rfl (by decide) kf_RX12_198 rfl (hc2.1 c3).1 ?_
    refine X_iconst dX12_next_39 (by decide) ?_
    refine X_iaddN dX12_next_40 (hc2.1 c3).2.1 (hc2.1 c3).2.2.1 ?_
    refine X_putfield (ci := 12) (k := 4) (z := ((V1 x0 4) + 1)) dX12_next_41 rfl (by decide) kf_RX12_198 (Or.inl rfl) (Or.inl rfl) rfl (fun hv => hv) (hc2.1 c3).1 ?_
    refine X_goto dX12_next_44 (tgt := 8) rfl ?_
    exact (hc2.1 c3).2.2.2
  · refine X_aload_n dX12_next_21 rfl ?_
    refine X_aload_n dX12_next_22 rfl ?_
    refine X_getfield (ci := 12) (k := 4) (v := vi (V1 x0 4)) dX12_next_23 rfl (by decide) kf_RX12_198 rfl (hc2.2 c3).1 ?_
    refine X_invV (ci := 12) (as := [vi (V1 x0 4)]) (st := []) okX12_at dX12_next_26 km_RX12_201 rfl rfl (Nat.le_of_ble_eq_true rfl) rfl rfl (hc2.2 c3).1 (CT.imp (hc2.2 c3).2 (fun z4 S4 V4 mc4 ms4 hc5 => ?_))
    refine X_bipush dX12_next_29 (by decide) (by decide) ?_
    refine X_icmp_ne dX12_next_31 (tgt := 47) rfl (fun c6 => ?_) (fun c6 => ?_)
    · refine X_aload_n dX12_next_47 rfl ?_
      refine X_aload_n dX12_next_48 rfl ?_
      refine X_getfield (ci := 12) (k := 4) (v := vi (V4 x0 4)) dX12_next_49 rfl (by decide) kf_RX12_198 rfl (hc5.1 c6).1 ?_
      refine X_putfield (ci := 12) (k := 5) (z := (V4 x0 4)) dX12_next_52 rfl (by decide) kf_RX12_195 (Or.inl rfl) (Or.inl rfl) rfl (fun hv => hv) (hc5.1 c6).1 ?_
      refine X_aload_n dX12_next_55 rfl ?_
      refine X_aload_n dX12_next_56 rfl ?_
      refine X_getfield (ci := 12) (k := 4) (v := vi (V4 x0 4)) dX12_next_57 rfl (by decide) kf_RX12_198 (congrArg vi (up_ne (Or.inr (by decide)))) (hc5.1 c6).1 ?_
      refine X_invV (ci := 12) (as := [vi (V4 x0 4)]) (st := []) okX12_at dX12_next_60 km_RX12_201 rfl rfl (Nat.le_of_ble_eq_true rfl) rfl rfl (hc5.1 c6).1 (CT.imp (hc5.1 c6).2 (fun z7 S7 V7 mc7 ms7 hc8 => ?_))
      refine X_istore_n dX12_next_63 (by decide) rfl ?_
      refine X_aload_n dX12_next_64 rfl ?_
      refine X_getfield (ci := 12) (k := 4) (v := vi (V7 x0 4)) dX12_next_65 rfl (by decide) kf_RX12_198 rfl hc8.1 ?_
      refine X_aload_n dX12_next_68 rfl ?_
      refine X_getfield (ci := 12) (k := 2) (v := vi (V7 x0 2)) dX12_next_69 rfl (by decide) kf_RX12_192 rfl hc8.1 ?_
      refine X_icmp_lt dX12_next_72 (tgt := 99) rfl (fun c9 => ?_) (fun c9 => ?_)
      · refine X_iload_n dX12_next_99 rfl ?_
        refine X_invS (as := [vi z7]) (st := []) okX12_isLetter dX12_next_100 km_RX12_208 rfl rfl (Nat.le_of_ble_eq_true rfl) (CT.imp (hc8.2.1 c9) (fun z10 S10 V10 mc10 ms10 hc11 => ?_))
        refine X_if_ne dX12_next_103 (tgt := 113) rfl (fun c12 => ?_) (fun c12 => ?_)
        · refine X_iconst dX12_next_113 (by decide) ?_
          refine X_istore_n dX12_next_114 (by decide) rfl ?_
          exact (hc11.1 c12)
        · refine X_iload_n dX12_next_106 rfl ?_
          refine X_invS (as := [vi z7]) (st := []) okX12_isDigit dX12_next_107 km_RX12_212 rfl rfl (Nat.le_of_ble_eq_true rfl) (CT.imp (hc11.2 c12) (fun z13 S13 V13 mc13 ms13 hc14 => ?_))
          refine X_if_eq dX12_next_110 (tgt := 296) rfl (fun c15 => ?_) (fun c15 => ?_)
          · refine X_aload_n dX12_next_296 rfl ?_
            refine X_dup dX12_next_297 (rv_cat _) ?_
            refine X_getfield (ci := 12) (k := 5) (v := vi (V13 x0 5)) dX12_next_298 rfl (by decide) kf_RX12_195 rfl (hc14.1 c15).1 ?_
            refine X_iconst dX12_next_301 (by decide) ?_
            refine X_iaddN dX12_next_302 (hc14.1 c15).2.1 (hc14.1 c15).2.2.1 ?_
            refine X_putfield (ci := 12) (k := 5) (z := ((V13 x0 5) + 1)) dX12_next_303 rfl (by decide) kf_RX12_195 (Or.inl rfl) (Or.inl rfl) rfl (fun hv => hv) (hc14.1 c15).1 ?_
            refine X_aload_n dX12_next_306 rfl ?_
            refine X_ldcS (i := 3) dX12_next_307 (by decide) ⟨rfl, rfl⟩ ?_
            refine X_iload_n dX12_next_309 rfl ?_
            refine X_invStr (i := 3) (as := [vi z7]) (st := [vr x0]) okJ0_indexOf_0f7a4 dX12_next_310 km_RX12_220 rfl rfl (Nat.le_of_ble_eq_true rfl) (by decide) rfl (CT.imp (hc14.1 c15).2.2.2 (fun z16 S16 V16 mc16 ms16 hc17 => ?_))
            refine X_if_lt dX12_next_313 (tgt := 320) rfl (fun c18 => ?_) (fun c18 => ?_)
            · refine X_iconst dX12_next_320 (by decide) ?_
              refine X_putfield (ci := 12) (k := 3) (z := 1) dX12_next_321 rfl (by decide) kf_RX12_205 (Or.inl rfl) (Or.inl rfl) rfl (fun hv => hv) (hc17.1 c18).1 ?_
              exact X_ret (z := 0) dX12_next_324 rfl (fun _ => trivial) (hc17.1 c18).2
            · refine X_iconst dX12_next_316 (by decide) ?_
              refine X_goto dX12_next_317 (tgt := 321) rfl ?_
              refine X_putfield (ci := 12) (k := 3) (z := 4) dX12_next_321 rfl (by decide) kf_RX12_205 (Or.inl rfl) (Or.inl rfl) rfl (fun hv => hv) (hc17.2 c18).1 ?_
              exact X_ret (z := 0) dX12_next_324 rfl (fun _ => trivial) (hc17.2 c18).2
          · refine X_iconst dX12_next_113 (by decide) ?_
            refine X_istore_n dX12_next_114 (by decide) rfl ?_
            exact (hc14.2 c15)
      · refine X_aload_n dX12_next_75 rfl ?_
        refine X_aload_n dX12_next_76 rfl ?_
        refine X_getfield (ci := 12) (k := 2) (v := vi (V7 x0 2)) dX12_next_77 rfl (by decide) kf_RX12_192 rfl hc8.1 ?_
        refine X_putfield (ci := 12) (k := 4) (z := (V7 x0 2)) dX12_next_80 rfl (by decide) kf_RX12_198 (Or.inl rfl) (Or.inl rfl) rfl (fun hv => hv) hc8.1 ?_
        refine X_aload_n dX12_next_83 rfl ?_
        refine X_aload_n dX12_next_84 rfl ?_
        refine X_getfield (ci := 12) (k := 2) (v := vi (V7 x0 2)) dX12_next_85 rfl (by decide) kf_RX12_192 (congrArg vi (up_ne (Or.inr (by decide)))) hc8.1 ?_
        refine X_putfield (ci := 12) (k := 5) (z := (V7 x0 2)) dX12_next_88 rfl (by decide) kf_RX12_195 (Or.inl rfl) (Or.inl rfl) rfl (fun hv => hv) hc8.1 ?_
        refine X_aload_n dX12_next_91 rfl ?_
        refine X_iconst dX12_next_92 (by decide) ?_
        refine X_putfield (ci := 12) (k := 3) (z := 0) dX12_next_93 rfl (by decide) kf_RX12_205 (Or.inl rfl) (Or.inl rfl) rfl (fun hv => hv) hc8.1 ?_
        refine X_goto dX12_next_96 (tgt := 324) rfl ?_
        exact X_ret (z := 0) dX12_next_324 rfl (fun _ => trivial) (hc8.2.2 c9)
    · refine X_aload_n dX12_next_34 rfl ?_
      refine X_dup dX12_next_35 (rv_cat _) ?_
      refine X_getfield (ci := 12) (k := 4) (v := vi (V4 x0 4)) dX12_next_36 rfl (by decide) kf_RX12_198 rfl (hc5.2 c6).1 ?_
      refine X_iconst dX12_next_39 (by decide) ?_
      refine X_iaddN dX12_next_40 (hc5.2 c6).2.1 (hc5.2 c6).2.2.1 ?_
      refine X_putfield (ci := 12) (k := 4) (z := ((V4 x0 4) + 1)) dX12_next_41 rfl (by decide) kf_RX12_198 (Or.inl rfl) (Or.inl rfl) rfl (fun hv => hv) (hc5.2 c6).1 ?_
      refine X_goto dX12_next_44 (tgt := 8) rfl ?_
      exact (hc5.2 c6).2.2.2
set_option maxRecDepth 10000 in
theorem vX12_next_115 {l : Launch} {G : GT} {Q : Int → Sh → Mem → Prop} {d : Nat} {S : Sh} {V : Mem} {mc ms : Nat} {x0 x1 x2 : Int} (h : S.1 x0 = 13 ∧ CT l G bX12_at d mc ms [vr x0, vi (V x0 5)] S V (fun z1 S1 V1 mc1 ms1 => CT l G bX12_isLetter d mc1 ms1 [vi z1] S1 V1 (fun z3 S3 V3 mc3 ms3 => (z3 ≠ 0 → (x2 ≠ 0 → S3.1 x0 = 13 ∧ -2147483648 ≤ (V3 x0 5) + 1 ∧ (V3 x0 5) + 1 ≤ 2147483647 ∧ XJ l G bX12_next Q d 115 [vr x0, vi x1, vi 1, vu, vu] [] S3 (up V3 x0 5 ((V3 x0 5) + 1)) mc3 ms3) ∧ (¬ (x2 ≠ 0) → S3.1 x0 = 13 ∧ CT l G bX12_at d mc3 ms3 [vr x0, vi (V3 x0 5)] S3 V3 (fun z7 S7 V7 mc7 ms7 => CT l G bX12_isLetter d mc7 ms7 [vi z7] S7 V7 (fun z9 S9 V9 mc9 ms9 => (z9 = 0 → S9.1 x0 = 13 ∧ -2147483648 ≤ (V9 x0 5) + 1 ∧ (V9 x0 5) + 1 ≤ 2147483647 ∧ XJ l G bX12_next Q d 115 [vr x0, vi x1, vi 0, vu, vu] [] S9 (up V9 x0 5 ((V9 x0 5) + 1)) mc9 ms9) ∧ (¬ (z9 = 0) → S9.1 x0 = 13 ∧ -2147483648 ≤ (V9 x0 5) + 1 ∧ (V9 x0 5) + 1 ≤ 2147483647 ∧ XJ l G bX12_next Q d 115 [vr x0, vi x1, vi 1, vu, vu] [] S9 (up V9 x0 5 ((V9 x0 5) + 1)) mc9 ms9))))) ∧ (¬ (z3 ≠ 0) → S3.1 x0 = 13 ∧ CT l G bX12_at d mc3 ms3 [vr x0, vi (V3 x0 5)] S3 V3 (fun z12 S12 V12 mc12 ms12 => CT l G bX12_isDigit d mc12 ms12 [vi z12] S12 V12 (fun z14 S14 V14 mc14 ms14 => (z14 = 0 → CT l G bX12_isLetter d mc14 ms14 [vi x1] S14 V14 (fun z17 S17 V17 mc17 ms17 => (z17 = 0 → (x2 ≠ 0 → S17.1 x0 = 13 ∧ XJ l G bX12_next Q d 249 [vr x0, vi x1, vi x2, vi z17, vi (V17 x0 4)] [] S17 (up (up V17 x0 3 1) x0 6 0) mc17 ms17) ∧ (¬ (x2 ≠ 0) → S17.1 x0 = 13 ∧ -2147483648 ≤ (V17 x0 5) - (V17 x0 4) ∧ (V17 x0 5) - (V17 x0 4) ≤ 2147483647 ∧ (((V17 x0 5) - (V17 x0 4)) ≤ 9 → XJ l G bX12_next Q d 249 [vr x0, vi x1, vi x2, vi z17, vi (V17 x0 4)] [] S17 (up (up V17 x0 3 3) x0 6 0) mc17 ms17) ∧ (¬ (((V17 x0 5) - (V17 x0 4)) ≤ 9) → XJ l G bX12_next Q d 249 [vr x0, vi x1, vi x2, vi z17, vi (V17 x0 4)] [] S17 (up (up V17 x0 3 1) x0 6 0) mc17 ms17))) ∧ (¬ (z17 = 0) → S17.1 x0 = 13 ∧ -2147483648 ≤ (V17 x0 5) - (V17 x0 4) ∧ (V17 x0 5) - (V17 x0 4) ≤ 2147483647 ∧ (((V17 x0 5) - (V17 x0 4)) ≤ 10 → XJ l G bX12_next Q d 249 [vr x0, vi x1, vi x2, vi z17, vi (V17 x0 4)] [] S17 (up (up V17 x0 3 2) x0 6 0) mc17 ms17) ∧ (¬ (((V17 x0 5) - (V17 x0 4)) ≤ 10) → XJ l G bX12_next Q d 249 [vr x0, vi x1, vi x2, vi z17, vi (V17 x0 4)] [] S17 (up (up V17 x0 3 1) x0 6 0) mc17 ms17)))) ∧ (¬ (z14 = 0) → (x2 ≠ 0 → S14.1 x0 = 13 ∧ -2147483648 ≤ (V14 x0 5) + 1 ∧ (V14 x0 5) + 1 ≤ 2147483647 ∧ XJ l G bX12_next Q d 115 [vr x0, vi x1, vi 1, vu, vu] [] S14 (up V14 x0 5 ((V14 x0 5) + 1)) mc14 ms14) ∧ (¬ (x2 ≠ 0) → S14.1 x0 = 13 ∧ CT l G bX12_at d mc14 ms14 [vr x0, vi (V14 x0 5)] S14 V14 (fun z24 S24 V24 mc24 ms24 => CT l G bX12_isLetter d mc24 ms24 [vi z24] S24 V24 (fun z26 S26 V26 mc26 ms26 => (z26 = 0 → S26.1 x0 = 13 ∧ -2147483648 ≤ (V26 x0 5) + 1 ∧ (V26 x0 5) + 1 ≤ 2147483647 ∧ XJ l G bX12_next Q d 115 [vr x0, vi x1, vi 0, vu, vu] [] S26 (up V26 x0 5 ((V26 x0 5) + 1)) mc26 ms26) ∧ (¬ (z26 = 0) → S26.1 x0 = 13 ∧ -2147483648 ≤ (V26 x0 5) + 1 ∧ (V26 x0 5) + 1 ≤ 2147483647 ∧ XJ l G bX12_next Q d 115 [vr x0, vi x1, vi 1, vu, vu] [] S26 (up V26 x0 5 ((V26 x0 5) + 1)) mc26 ms26))))))))))) : XJ l G bX12_next Q d 115 [vr x0, vi x1, vi x2, vu, vu] [] S V mc ms := by
  refine X_aload_n dX12_next_115 rfl ?_
  refine X_aload_n dX12_next_116 rfl ?_
  refine X_getfield (ci := 12) (k := 5) (v := vi (V x0 5)) dX12_next_117 rfl (by decide) kf_RX12_195 rfl h.1 ?_
  refine X_invV (ci := 12) (as := [vi (V x0 5)]) (st := []) okX12_at dX12_next_120 km_RX12_201 rfl rfl (Nat.le_of_ble_eq_true rfl) rfl rfl h.1 (CT.imp h.2 (fun z1 S1 V1 mc1 ms1 hc2 => ?_))
  refine X_invS (as := [vi z1]) (st := []) okX12_isLetter dX12_next_123 km_RX12_208 rfl rfl (Nat.le_of_ble_eq_true rfl) (CT.imp hc2 (fun z3 S3 V3 mc3 ms3 hc4 => ?_))
  refine X_if_ne dX12_next_126 (tgt := 143) rfl (fun c5 => ?_) (fun c5 => ?_)
  · refine X_iload_n dX12_next_143 rfl ?_
    refine X_if_ne dX12_next_144 (tgt := 161) rfl (fun c6 => ?_) (fun c6 => ?_)
    · refine X_iconst dX12_next_161 (by decide) ?_
      refine X_goto dX12_next_162 (tgt := 166) rfl ?_
      refine X_istore_n dX12_next_166 (by decide) rfl ?_
      refine X_aload_n dX12_next_167 rfl ?_
      refine X_dup dX12_next_168 (rv_cat _) ?_
      refine X_getfield (ci := 12) (k := 5) (v := vi (V3 x0 5)) dX12_next_169 rfl (by decide) kf_RX12_195 rfl ((hc4.1 c5).1 c6).1 ?_
      refine X_iconst dX12_next_172 (by decide) ?_
      refine X_iaddN dX12_next_173 ((hc4.1 c5).1 c6).2.1 ((hc4.1 c5).1 c6).2.2.1 ?_
      refine X_putfield (ci := 12) (k := 5) (z := ((V3 x0 5) + 1)) dX12_next_174 rfl (by decide) kf_RX12_195 (Or.inl rfl) (Or.inl rfl) rfl (fun hv => hv) ((hc4.1 c5).1 c6).1 ?_
      refine X_goto dX12_next_177 (tgt := 115) rfl ?_
      exact ((hc4.1 c5).1 c6).2.2.2
    · refine X_aload_n dX12_next_147 rfl ?_
      refine X_aload_n dX12_next_148 rfl ?_
      refine X_getfield (ci := 12) (k := 5) (v := vi (V3 x0 5)) dX12_next_149 rfl (by decide) kf_RX12_195 rfl ((hc4.1 c5).2 c6).1 ?_
      refine X_invV (ci := 12) (as := [vi (V3 x0 5)]) (st := []) okX12_at dX12_next_152 km_RX12_201 rfl rfl (Nat.le_of_ble_eq_true rfl) rfl rfl ((hc4.1 c5).2 c6).1 (CT.imp ((hc4.1 c5).2 c6).2 (fun z7 S7 V7 mc7 ms7 hc8 => ?_))
      refine X_invS (as := [vi z7]) (st := []) okX12_isLetter dX12_next_155 km_RX12_208 rfl rfl (Nat.le_of_ble_eq_true rfl) (CT.imp hc8 (fun z9 S9 V9 mc9 ms9 hc10 => ?_))
      refine X_if_eq dX12_next_158 (tgt := 165) rfl (fun c11 => ?_) (fun c11 => ?_)
      · refine X_iconst dX12_next_165 (by decide) ?_
        refine X_istore_n dX12_next_166 (by decide) rfl ?_
        refine X_aload_n dX12_next_167 rfl ?_
        refine X_dup dX12_next_168 (rv_cat _) ?_
        refine X_getfield (ci := 12) (k := 5) (v := vi (V9 x0 5)) dX12_next_169 rfl (by decide) kf_RX12_195 rfl (hc10.1 c11).1 ?_
        refine X_iconst dX12_next_172 (by decide) ?_
        refine X_iaddN dX12_next_173 (hc10.1 c11).2.1 (hc10.1 c11).2.2.1 ?_
        refine X_putfield (ci := 12) (k := 5) (z := ((V9 x0 5) + 1)) dX12_next_174 rfl (by decide) kf_RX12_195 (Or.inl rfl) (Or.inl rfl) rfl (fun hv => hv) (hc10.1 c11).1 ?_
        refine X_goto dX12_next_177 (tgt := 115) rfl ?_
        exact (hc10.1 c11).2.2.2
      · refine X_iconst dX12_next_161 (by decide) ?_
        refine X_goto dX12_next_162 (tgt := 166) rfl ?_
        refine X_istore_n dX12_next_166 (by decide) rfl ?_
        refine X_aload_n dX12_next_167 rfl ?_
        refine X_dup dX12_next_168 (rv_cat _) ?_
        refine X_getfield (ci := 12) (k := 5) (v := vi (V9 x0 5)) dX12_next_169 rfl (by decide) kf_RX12_195 rfl (hc10.2 c11).1 ?_
        refine X_iconst dX12_next_172 (by decide) ?_
        refine X_iaddN dX12_next_173 (hc10.2 c11).2.1 (hc10.2 c11).2.2.1 ?_
        refine X_putfield (ci := 12) (k := 5) (z := ((V9 x0 5) + 1)) dX12_next_174 rfl (by decide) kf_RX12_195 (Or.inl rfl) (Or.inl rfl) rfl (fun hv => hv) (hc10.2 c11).1 ?_
        refine X_goto dX12_next_177 (tgt := 115) rfl ?_
        exact (hc10.2 c11).2.2.2
  · refine X_aload_n dX12_next_129 rfl ?_
    refine X_aload_n dX12_next_130 rfl ?_
    refine X_getfield (ci := 12) (k := 5) (v := vi (V3 x0 5)) dX12_next_131 rfl (by decide) kf_RX12_195 rfl (hc4.2 c5).1 ?_
    refine X_invV (ci := 12) (as := [vi (V3 x0 5)]) (st := []) okX12_at dX12_next_134 km_RX12_201 rfl rfl (Nat.le_of_ble_eq_true rfl) rfl rfl (hc4.2 c5).1 (CT.imp (hc4.2 c5).2 (fun z12 S12 V12 mc12 ms12 hc13 => ?_))
    refine X_invS (as := [vi z12]) (st := []) okX12_isDigit dX12_next_137 km_RX12_212 rfl rfl (Nat.le_of_ble_eq_true rfl) (CT.imp hc13 (fun z14 S14 V14 mc14 ms14 hc15 => ?_))
    refine X_if_eq dX12_next_140 (tgt := 180) rfl (fun c16 => ?_) (fun c16 => ?_)
    · refine X_iload_n dX12_next_180 rfl ?_
      refine X_invS (as := [vi x1]) (st := []) okX12_isLetter dX12_next_181 km_RX12_208 rfl rfl (Nat.le_of_ble_eq_true rfl) (CT.imp (hc15.1 c16) (fun z17 S17 V17 mc17 ms17 hc18 => ?_))
      refine X_istore_n dX12_next_184 (by decide) rfl ?_
      refine X_aload_n dX12_next_185 rfl ?_
      refine X_iload_n dX12_next_186 rfl ?_
      refine X_if_eq dX12_next_187 (tgt := 212) rfl (fun c19 => ?_) (fun c19 => ?_)
      · refine X_iload_n dX12_next_212 rfl ?_
        refine X_if_ne dX12_next_213 (tgt := 230) rfl (fun c20 => ?_) (fun c20 => ?_)
        · refine X_iconst dX12_next_230 (by decide) ?_
          refine X_goto dX12_next_231 (tgt := 235) rfl ?_
          refine X_putfield (ci := 12) (k := 3) (z := 1) dX12_next_235 rfl (by decide) kf_RX12_205 (Or.inl rfl) (Or.inl rfl) rfl (fun hv => hv) ((hc18.1 c19).1 c20).1 ?_
          refine X_aload_n dX12_next_238 rfl ?_
          refine X_iconst dX12_next_239 (by decide) ?_
          refine X_putfield (ci := 12) (k := 6) (z := 0) dX12_next_240 rfl (by decide) kf_RX12_215 (Or.inl rfl) (Or.inl rfl) rfl (fun hv => hv) ((hc18.1 c19).1 c20).1 ?_
          refine X_aload_n dX12_next_243 rfl ?_
          refine X_getfield (ci := 12) (k := 4) (v := vi (V17 x0 4)) dX12_next_244 rfl (by decide) kf_RX12_198 (congrArg vi ((up_ne (Or.inr (by decide))).trans (up_ne (Or.inr (by decide))))) ((hc18.1 c19).1 c20).1 ?_
          refine X_istore dX12_next_247 (by decide) rfl ?_
          exact ((hc18.1 c19).1 c20).2
        · refine X_aload_n dX12_next_216 rfl ?_
          refine X_getfield (ci := 12) (k := 5) (v := vi (V17 x0 5)) dX12_next_217 rfl (by decide) kf_RX12_195 rfl ((hc18.1 c19).2 c20).1 ?_
          refine X_aload_n dX12_next_220 rfl ?_
          refine X_getfield (ci := 12) (k := 4) (v := vi (V17 x0 4)) dX12_next_221 rfl (by decide) kf_RX12_198 rfl ((hc18.1 c19).2 c20).1 ?_
          refine X_isubN dX12_next_224 ((hc18.1 c19).2 c20).2.1 ((hc18.1 c19).2 c20).2.2.1 ?_
          refine X_bipush dX12_next_225 (by decide) (by decide) ?_
          refine X_icmp_le dX12_next_227 (tgt := 234) rfl (fun c21 => ?_) (fun c21 => ?_)
          · refine X_iconst dX12_next_234 (by decide) ?_
            refine X_putfield (ci := 12) (k := 3) (z := 3) dX12_next_235 rfl (by decide) kf_RX12_205 (Or.inl rfl) (Or.inl rfl) rfl (fun hv => hv) ((hc18.1 c19).2 c20).1 ?_
            refine X_aload_n dX12_next_238 rfl ?_
            refine X_iconst dX12_next_239 (by decide) ?_
            refine X_putfield (ci := 12) (k := 6) (z := 0) dX12_next_240 rfl (by decide) kf_RX12_215 (Or.inl rfl) (Or.inl rfl) rfl (fun hv => hv) ((hc18.1 c19).2 c20).1 ?_
            refine X_aload_n dX12_next_243 rfl ?_
            refine X_getfield (ci := 12) (k := 4) (v := vi (V17 x0 4)) dX12_next_244 rfl (by decide) kf_RX12_198 (congrArg vi ((up_ne (Or.inr (by decide))).trans (up_ne (Or.inr (by decide))))) ((hc18.1 c19).2 c20).1 ?_
            refine X_istore dX12_next_247 (by decide) rfl ?_
            exact (((hc18.1 c19).2 c20).2.2.2.1 c21)
          · refine X_iconst dX12_next_230 (by decide) ?_
            refine X_goto dX12_next_231 (tgt := 235) rfl ?_
            refine X_putfield (ci := 12) (k := 3) (z := 1) dX12_next_235 rfl (by decide) kf_RX12_205 (Or.inl rfl) (Or.inl rfl) rfl (fun hv => hv) ((hc18.1 c19).2 c20).1 ?_
            refine X_aload_n dX12_next_238 rfl ?_
            refine X_iconst dX12_next_239 (by decide) ?_
            refine X_putfield (ci := 12) (k := 6) (z := 0) dX12_next_240 rfl (by decide) kf_RX12_215 (Or.inl rfl) (Or.inl rfl) rfl (fun hv => hv) ((hc18.1 c19).2 c20).1 ?_
            refine X_aload_n dX12_next_243 rfl ?_
            refine X_getfield (ci := 12) (k := 4) (v := vi (V17 x0 4)) dX12_next_244 rfl (by decide) kf_RX12_198 (congrArg vi ((up_ne (Or.inr (by decide))).trans (up_ne (Or.inr (by decide))))) ((hc18.1 c19).2 c20).1 ?_
            refine X_istore dX12_next_247 (by decide) rfl ?_
            exact (((hc18.1 c19).2 c20).2.2.2.2 c21)
      · refine X_aload_n dX12_next_190 rfl ?_
        refine X_getfield (ci := 12) (k := 5) (v := vi (V17 x0 5)) dX12_next_191 rfl (by decide) kf_RX12_195 rfl (hc18.2 c19).1 ?_
        refine X_aload_n dX12_next_194 rfl ?_
        refine X_getfield (ci := 12) (k := 4) (v := vi (V17 x0 4)) dX12_next_195 rfl (by decide) kf_RX12_198 rfl (hc18.2 c19).1 ?_
        refine X_isubN dX12_next_198 (hc18.2 c19).2.1 (hc18.2 c19).2.2.1 ?_
        refine X_bipush dX12_next_199 (by decide) (by decide) ?_
        refine X_icmp_le dX12_next_201 (tgt := 208) rfl (fun c22 => ?_) (fun c22 => ?_)
        · refine X_iconst dX12_next_208 (by decide) ?_
          refine X_goto dX12_next_209 (tgt := 235) rfl ?_
          refine X_putfield (ci := 12) (k := 3) (z := 2) dX12_next_235 rfl (by decide) kf_RX12_205 (Or.inl rfl) (Or.inl rfl) rfl (fun hv => hv) (hc18.2 c19).1 ?_
          refine X_aload_n dX12_next_238 rfl ?_
          refine X_iconst dX12_next_239 (by decide) ?_
          refine X_putfield (ci := 12) (k := 6) (z := 0) dX12_next_240 rfl (by decide) kf_RX12_215 (Or.inl rfl) (Or.inl rfl) rfl (fun hv => hv) (hc18.2 c19).1 ?_
          refine X_aload_n dX12_next_243 rfl ?_
          refine X_getfield (ci := 12) (k := 4) (v := vi (V17 x0 4)) dX12_next_244 rfl (by decide) kf_RX12_198 (congrArg vi ((up_ne (Or.inr (by decide))).trans (up_ne (Or.inr (by decide))))) (hc18.2 c19).1 ?_
          refine X_istore dX12_next_247 (by decide) rfl ?_
          exact ((hc18.2 c19).2.2.2.1 c22)
        · refine X_iconst dX12_next_204 (by decide) ?_
          refine X_goto dX12_next_205 (tgt := 235) rfl ?_
          refine X_putfield (ci := 12) (k := 3) (z := 1) dX12_next_235 rfl (by decide) kf_RX12_205 (Or.inl rfl) (Or.inl rfl) rfl (fun hv => hv) (hc18.2 c19).1 ?_
          refine X_aload_n dX12_next_238 rfl ?_
          refine X_iconst dX12_next_239 (by decide) ?_
          refine X_putfield (ci := 12) (k := 6) (z := 0) dX12_next_240 rfl (by decide) kf_RX12_215 (Or.inl rfl) (Or.inl rfl) rfl (fun hv => hv) (hc18.2 c19).1 ?_
          refine X_aload_n dX12_next_243 rfl ?_
          refine X_getfield (ci := 12) (k := 4) (v := vi (V17 x0 4)) dX12_next_244 rfl (by decide) kf_RX12_198 (congrArg vi ((up_ne (Or.inr (by decide))).trans (up_ne (Or.inr (by decide))))) (hc18.2 c19).1 ?_
          refine X_istore dX12_next_247 (by decide) rfl ?_
          exact ((hc18.2 c19).2.2.2.2 c22)
    · refine X_iload_n dX12_next_143 rfl ?_
      refine X_if_ne dX12_next_144 (tgt := 161) rfl (fun c23 => ?_) (fun c23 => ?_)
      · refine X_iconst dX12_next_161 (by decide) ?_
        refine X_goto dX12_next_162 (tgt := 166) rfl ?_
        refine X_istore_n dX12_next_166 (by decide) rfl ?_
        refine X_aload_n dX12_next_167 rfl ?_
        refine X_dup dX12_next_168 (rv_cat _) ?_
        refine X_getfield (ci := 12) (k := 5) (v := vi (V14 x0 5)) dX12_next_169 rfl (by decide) kf_RX12_195 rfl ((hc15.2 c16).1 c23).1 ?_
        refine X_iconst dX12_next_172 (by decide) ?_
        refine X_iaddN dX12_next_173 ((hc15.2 c16).1 c23).2.1 ((hc15.2 c16).1 c23).2.2.1 ?_
        refine X_putfield (ci := 12) (k := 5) (z := ((V14 x0 5) + 1)) dX12_next_174 rfl (by decide) kf_RX12_195 (Or.inl rfl) (Or.inl rfl) rfl (fun hv => hv) ((hc15.2 c16).1 c23).1 ?_
        refine X_goto dX12_next_177 (tgt := 115) rfl ?_
        exact ((hc15.2 c16).1 c23).2.2.2
      · refine X_aload_n dX12_next_147 rfl ?_
        refine X_aload_n dX12_next_148 rfl ?_
        refine X_getfield (ci := 12) (k := 5) (v := vi (V14 x0 5)) dX12_next_149 rfl (by decide) kf_RX12_195 rfl ((hc15.2 c16).2 c23).1 ?_
        refine X_invV (ci := 12) (as := [vi (V14 x0 5)]) (st := []) okX12_at dX12_next_152 km_RX12_201 rfl rfl (Nat.le_of_ble_eq_true rfl) rfl rfl ((hc15.2 c16).2 c23).1 (CT.imp ((hc15.2 c16).2 c23).2 (fun z24 S24 V24 mc24 ms24 hc25 => ?_))
        refine X_invS (as := [vi z24]) (st := []) okX12_isLetter dX12_next_155 km_RX12_208 rfl rfl (Nat.le_of_ble_eq_true rfl) (CT.imp hc25 (fun z26 S26 V26 mc26 ms26 hc27 => ?_))
        refine X_if_eq dX12_next_158 (tgt := 165) rfl (fun c28 => ?_) (fun c28 => ?_)
        · refine X_iconst dX12_next_165 (by decide) ?_
          refine X_istore_n dX12_next_166 (by decide) rfl ?_
          refine X_aload_n dX12_next_167 rfl ?_
          refine X_dup dX12_next_168 (rv_cat _) ?_
          refine X_getfield (ci := 12) (k := 5) (v := vi (V26 x0 5)) dX12_next_169 rfl (by decide) kf_RX12_195 rfl (hc27.1 c28).1 ?_
          refine X_iconst dX12_next_172 (by decide) ?_
          refine X_iaddN dX12_next_173 (hc27.1 c28).2.1 (hc27.1 c28).2.2.1 ?_
          refine X_putfield (ci := 12) (k := 5) (z := ((V26 x0 5) + 1)) dX12_next_174 rfl (by decide) kf_RX12_195 (Or.inl rfl) (Or.inl rfl) rfl (fun hv => hv) (hc27.1 c28).1 ?_
          refine X_goto dX12_next_177 (tgt := 115) rfl ?_
          exact (hc27.1 c28).2.2.2
        · refine X_iconst dX12_next_161 (by decide) ?_
          refine X_goto dX12_next_162 (tgt := 166) rfl ?_
          refine X_istore_n dX12_next_166 (by decide) rfl ?_
          refine X_aload_n dX12_next_167 rfl ?_
          refine X_dup dX12_next_168 (rv_cat _) ?_
          refine X_getfield (ci := 12) (k := 5) (v := vi (V26 x0 5)) dX12_next_169 rfl (by decide) kf_RX12_195 rfl (hc27.2 c28).1 ?_
          refine X_iconst dX12_next_172 (by decide) ?_
          refine X_iaddN dX12_next_173 (hc27.2 c28).2.1 (hc27.2 c28).2.2.1 ?_
          refine X_putfield (ci := 12) (k := 5) (z := ((V26 x0 5) + 1)) dX12_next_174 rfl (by decide) kf_RX12_195 (Or.inl rfl) (Or.inl rfl) rfl (fun hv => hv) (hc27.2 c28).1 ?_
          refine X_goto dX12_next_177 (tgt := 115) rfl ?_
          exact (hc27.2 c28).2.2.2
set_option maxRecDepth 10000 in
theorem vX12_next_249 {l : Launch} {G : GT} {Q : Int → Sh → Mem → Prop} {d : Nat} {S : Sh} {V : Mem} {mc ms : Nat} {x0 x1 x2 x3 x4 : Int} (h : S.1 x0 = 13 ∧ ((V x0 5) ≤ x4 → Q 0 S V) ∧ (¬ ((V x0 5) ≤ x4) → ((V x0 3) ≠ 3 → Q 0 S V) ∧ (¬ ((V x0 3) ≠ 3) → -2147483648 ≤ 10 * (V x0 6) ∧ 10 * (V x0 6) ≤ 2147483647 ∧ CT l G bX12_at d mc ms [vr x0, vi x4] S V (fun z3 S3 V3 mc3 ms3 => -2147483648 ≤ (10 * (V x0 6)) + z3 ∧ (10 * (V x0 6)) + z3 ≤ 2147483647 ∧ -2147483648 ≤ ((10 * (V x0 6)) + z3) - 48 ∧ ((10 * (V x0 6)) + z3) - 48 ≤ 2147483647 ∧ S3.1 x0 = 13 ∧ -2147483648 ≤ x4 + 1 ∧ x4 + 1 ≤ 2147483647 ∧ XJ l G bX12_next Q d 249 [vr x0, vi x1, vi x2, vi x3, vi (x4 + 1)] [] S3 (up V3 x0 6 (((10 * (V x0 6)) + z3) - 48)) mc3 ms3)))) : XJ l G bX12_next Q d 249 [vr x0, vi x1, vi x2, vi x3, vi x4] [] S V mc ms := by
  refine X_iload dX12_next_249 rfl ?_
  refine X_aload_n dX12_next_251 rfl ?_
  refine X_getfield (ci := 12) (k := 5) (v := vi (V x0 5)) dX12_next_252 rfl (by decide) kf_RX12_195 rfl h.1 ?_
  refine X_icmp_ge dX12_next_255 (tgt := 293) rfl (fun c1 => ?_) (fun c1 => ?_)
  · refine X_goto dX12_next_293 (tgt := 324) rfl ?_
    exact X_ret (z := 0) dX12_next_324 rfl (fun _ => trivial) (h.2.1 c1)
  · refine X_aload_n dX12_next_258 rfl ?_
    refine X_getfield (ci := 12) (k := 3) (v := vi (V x0 3)) dX12_next_259 rfl (by decide) kf_RX12_205 rfl h.1 ?_
    refine X_iconst dX12_next_262 (by decide) ?_
    refine X_icmp_ne dX12_next_263 (tgt := 293) rfl (fun c2 => ?_) (fun c2 => ?_)
    · refine X_goto dX12_next_293 (tgt := 324) rfl ?_
      exact X_ret (z := 0) dX12_next_324 rfl (fun _ => trivial) ((h.2.2 c1).1 c2)
    · refine X_aload_n dX12_next_266 rfl ?_
      refine X_bipush dX12_next_267 (by decide) (by decide) ?_
      refine X_aload_n dX12_next_269 rfl ?_
      refine X_getfield (ci := 12) (k := 6) (v := vi (V x0 6)) dX12_next_270 rfl (by decide) kf_RX12_215 rfl h.1 ?_
      refine X_imulN dX12_next_273 ((h.2.2 c1).2 c2).1 ((h.2.2 c1).2 c2).2.1 ?_
      refine X_aload_n dX12_next_274 rfl ?_
      refine X_iload dX12_next_275 rfl ?_
      refine X_invV (ci := 12) (as := [vi x4]) (st := [vi (10 * (V x0 6)), vr x0]) okX12_at dX12_next_277 km_RX12_201 rfl rfl (Nat.le_of_ble_eq_true rfl) rfl rfl h.1 (CT.imp ((h.2.2 c1).2 c2).2.2 (fun z3 S3 V3 mc3 ms3 hc4 => ?_))
      refine X_iaddN dX12_next_280 hc4.1 hc4.2.1 ?_
      refine X_bipush dX12_next_281 (by decide) (by decide) ?_
      refine X_isubN dX12_next_283 hc4.2.2.1 hc4.2.2.2.1 ?_
      refine X_putfield (ci := 12) (k := 6) (z := (((10 * (V x0 6)) + z3) - 48)) dX12_next_284 rfl (by decide) kf_RX12_215 (Or.inl rfl) (Or.inl rfl) rfl (fun hv => hv) hc4.2.2.2.2.1 ?_
      refine X_iincN dX12_next_287 rfl (by decide) rfl (e := x4 + 1) rfl hc4.2.2.2.2.2.1 hc4.2.2.2.2.2.2.1 ?_
      refine X_goto dX12_next_290 (tgt := 249) rfl ?_
      exact hc4.2.2.2.2.2.2.2
theorem qX12_next {l : Launch} {G : GT} {Q : Int → Sh → Mem → Prop} {d : Nat} {S : Sh} {V : Mem} {mc ms : Nat} {x0 : Int} (h : 0 ≤ x0 → XJ l G bX12_next Q d 0 [vr x0, vu, vu, vu, vu] [] S V mc ms) : Ct l G bX12_next Q d mc ms [vr x0] S V := Ct.of okX12_next.1 trivial (Nat.le_of_ble_eq_true rfl) (fun hv => h (hv _ (List.mem_of_getElem? (i := 0) rfl)))
set_option maxRecDepth 10000 in
theorem vX12_isSign_0 {l : Launch} {G : GT} {Q : Int → Sh → Mem → Prop} {d : Nat} {S : Sh} {V : Mem} {mc ms : Nat} {x0 x1 : Int} (h : S.1 x0 = 13 ∧ ((V x0 3) ≠ 4 → Q 0 S V) ∧ (¬ ((V x0 3) ≠ 4) → CT l G bX12_at d mc ms [vr x0, vi (V x0 4)] S V (fun z2 S2 V2 mc2 ms2 => (z2 ≠ x1 → Q 0 S2 V2) ∧ (¬ (z2 ≠ x1) → Q 1 S2 V2)))) : XJ l G bX12_isSign Q d 0 [vr x0, vi x1] [] S V mc ms := by
  refine X_aload_n dX12_isSign_0 rfl ?_
  refine X_getfield (ci := 12) (k := 3) (v := vi (V x0 3)) dX12_isSign_1 rfl (by decide) kf_RX12_205 rfl h.1 ?_
  refine X_iconst dX12_isSign_4 (by decide) ?_
  refine X_icmp_ne dX12_isSign_5 (tgt := 24) rfl (fun c1 => ?_) (fun c1 => ?_)
  · refine X_iconst dX12_isSign_24 (by decide) ?_
    exact X_ret (z := 0) dX12_isSign_25 rfl (fun _ => Or.inl rfl) (h.2.1 c1)
  · refine X_aload_n dX12_isSign_8 rfl ?_
    refine X_aload_n dX12_isSign_9 rfl ?_
    refine X_getfield (ci := 12) (k := 4) (v := vi (V x0 4)) dX12_isSign_10 rfl (by decide) kf_RX12_198 rfl h.1 ?_
    refine X_invV (ci := 12) (as := [vi (V x0 4)]) (st := []) okX12_at dX12_isSign_13 km_RX12_201 rfl rfl (Nat.le_of_ble_eq_true rfl) rfl rfl h.1 (CT.imp (h.2.2 c1) (fun z2 S2 V2 mc2 ms2 hc3 => ?_))
    refine X_iload_n dX12_isSign_16 rfl ?_
    refine X_icmp_ne dX12_isSign_17 (tgt := 24) rfl (fun c4 => ?_) (fun c4 => ?_)
    · refine X_iconst dX12_isSign_24 (by decide) ?_
      exact X_ret (z := 0) dX12_isSign_25 rfl (fun _ => Or.inl rfl) (hc3.1 c4)
    · refine X_iconst dX12_isSign_20 (by decide) ?_
      refine X_goto dX12_isSign_21 (tgt := 25) rfl ?_
      exact X_ret (z := 1) dX12_isSign_25 rfl (fun _ => Or.inr rfl) (hc3.2 c4)
theorem qX12_isSign {l : Launch} {G : GT} {Q : Int → Sh → Mem → Prop} {d : Nat} {S : Sh} {V : Mem} {mc ms : Nat} {x0 x1 : Int} (h : 0 ≤ x0 → inI x1 → XJ l G bX12_isSign Q d 0 [vr x0, vi x1] [] S V mc ms) : Ct l G bX12_isSign Q d mc ms [vr x0, vi x1] S V := Ct.of okX12_isSign.1 trivial (Nat.le_of_ble_eq_true rfl) (fun hv => h (hv _ (List.mem_of_getElem? (i := 0) rfl)) (hv _ (List.mem_of_getElem? (i := 1) rfl)))
set_option maxRecDepth 10000 in
theorem vX12_isWord_0 {l : Launch} {G : GT} {Q : Int → Sh → Mem → Prop} {d : Nat} {S : Sh} {V : Mem} {mc ms : Nat} {i : Nat} (hi : i < 16) {x0 : Int} (h : S.1 x0 = 13 ∧ ((V x0 3) ≠ 2 → XJ l G bX12_isWord Q d 32 [vr x0, vr ((G.2.2.2.1 i : Int) + 1), vi 0, vi 0] [] S V mc ms) ∧ (¬ ((V x0 3) ≠ 2) → -2147483648 ≤ (V x0 5) - (V x0 4) ∧ (V x0 5) - (V x0 4) ≤ 2147483647 ∧ CT l G bJ0_length_8abf5 d mc ms [vr ((G.2.2.2.1 i : Int) + 1)] S V (fun z2 S2 V2 mc2 ms2 => (((V x0 5) - (V x0 4)) ≠ z2 → XJ l G bX12_isWord Q d 32 [vr x0, vr ((G.2.2.2.1 i : Int) + 1), vi 0, vi 0] [] S2 V2 mc2 ms2) ∧ (¬ (((V x0 5) - (V x0 4)) ≠ z2) → XJ l G bX12_isWord Q d 32 [vr x0, vr ((G.2.2.2.1 i : Int) + 1), vi 1, vi 0] [] S2 V2 mc2 ms2)))) : XJ l G bX12_isWord Q d 0 [vr x0, vr ((G.2.2.2.1 i : Int) + 1), vu, vu] [] S V mc ms := by
  refine X_aload_n dX12_isWord_0 rfl ?_
  refine X_getfield (ci := 12) (k := 3) (v := vi (V x0 3)) dX12_isWord_1 rfl (by decide) kf_RX12_205 rfl h.1 ?_
  refine X_iconst dX12_isWord_4 (by decide) ?_
  refine X_icmp_ne dX12_isWord_5 (tgt := 28) rfl (fun c1 => ?_) (fun c1 => ?_)
  · refine X_iconst dX12_isWord_28 (by decide) ?_
    refine X_istore_n dX12_isWord_29 (by decide) rfl ?_
    refine X_iconst dX12_isWord_30 (by decide) ?_
    refine X_istore_n dX12_isWord_31 (by decide) rfl ?_
    exact (h.2.1 c1)
  · refine X_aload_n dX12_isWord_8 rfl ?_
    refine X_getfield (ci := 12) (k := 5) (v := vi (V x0 5)) dX12_isWord_9 rfl (by decide) kf_RX12_195 rfl h.1 ?_
    refine X_aload_n dX12_isWord_12 rfl ?_
    refine X_getfield (ci := 12) (k := 4) (v := vi (V x0 4)) dX12_isWord_13 rfl (by decide) kf_RX12_198 rfl h.1 ?_
    refine X_isubN dX12_isWord_16 (h.2.2 c1).1 (h.2.2 c1).2.1 ?_
    refine X_aload_n dX12_isWord_17 rfl ?_
    refine X_invStr (i := i) (as := []) (st := [vi ((V x0 5) - (V x0 4))]) okJ0_length_8abf5 dX12_isWord_18 km_RX12_225 rfl rfl (Nat.le_of_ble_eq_true rfl) hi rfl (CT.imp (h.2.2 c1).2.2 (fun z2 S2 V2 mc2 ms2 hc3 => ?_))
    refine X_icmp_ne dX12_isWord_21 (tgt := 28) rfl (fun c4 => ?_) (fun c4 => ?_)
    · refine X_iconst dX12_isWord_28 (by decide) ?_
      refine X_istore_n dX12_isWord_29 (by decide) rfl ?_
      refine X_iconst dX12_isWord_30 (by decide) ?_
      refine X_istore_n dX12_isWord_31 (by decide) rfl ?_
      exact (hc3.1 c4)
    · refine X_iconst dX12_isWord_24 (by decide) ?_
      refine X_goto dX12_isWord_25 (tgt := 29) rfl ?_
      refine X_istore_n dX12_isWord_29 (by decide) rfl ?_
      refine X_iconst dX12_isWord_30 (by decide) ?_
      refine X_istore_n dX12_isWord_31 (by decide) rfl ?_
      exact (hc3.2 c4)
set_option maxRecDepth 10000 in
theorem vX12_isWord_32 {l : Launch} {G : GT} {Q : Int → Sh → Mem → Prop} {d : Nat} {S : Sh} {V : Mem} {mc ms : Nat} {i : Nat} (hi : i < 16) {x0 x2 x3 : Int} (h : CT l G bJ0_length_8abf5 d mc ms [vr ((G.2.2.2.1 i : Int) + 1)] S V (fun z1 S1 V1 mc1 ms1 => (z1 ≤ x3 → (x2 = 0 ∨ x2 = 1) ∧ Q x2 S1 V1) ∧ (¬ (z1 ≤ x3) → (x2 = 0 → (x2 = 0 ∨ x2 = 1) ∧ Q x2 S1 V1) ∧ (¬ (x2 = 0) → S1.1 x0 = 13 ∧ -2147483648 ≤ (V1 x0 4) + x3 ∧ (V1 x0 4) + x3 ≤ 2147483647 ∧ CT l G bX12_at d mc1 ms1 [vr x0, vi ((V1 x0 4) + x3)] S1 V1 (fun z5 S5 V5 mc5 ms5 => CT l G bJ0_charAt_5068e d mc5 ms5 [vr ((G.2.2.2.1 i : Int) + 1), vi x3] S5 V5 (fun z7 S7 V7 mc7 ms7 => (z5 ≠ z7 → -2147483648 ≤ x3 + 1 ∧ x3 + 1 ≤ 2147483647 ∧ XJ l G bX12_isWord Q d 32 [vr x0, vr ((G.2.2.2.1 i : Int) + 1), vi 0, vi (x3 + 1)] [] S7 V7 mc7 ms7) ∧ (¬ (z5 ≠ z7) → -2147483648 ≤ x3 + 1 ∧ x3 + 1 ≤ 2147483647 ∧ XJ l G bX12_isWord Q d 32 [vr x0, vr ((G.2.2.2.1 i : Int) + 1), vi 1, vi (x3 + 1)] [] S7 V7 mc7 ms7))))))) : XJ l G bX12_isWord Q d 32 [vr x0, vr ((G.2.2.2.1 i : Int) + 1), vi x2, vi x3] [] S V mc ms := by
  refine X_iload_n dX12_isWord_32 rfl ?_
  refine X_aload_n dX12_isWord_33 rfl ?_
  refine X_invStr (i := i) (as := []) (st := [vi x3]) okJ0_length_8abf5 dX12_isWord_34 km_RX12_225 rfl rfl (Nat.le_of_ble_eq_true rfl) hi rfl (CT.imp h (fun z1 S1 V1 mc1 ms1 hc2 => ?_))
  refine X_icmp_ge dX12_isWord_37 (tgt := 74) rfl (fun c3 => ?_) (fun c3 => ?_)
  · refine X_iload_n dX12_isWord_74 rfl ?_
    exact X_ret (z := x2) dX12_isWord_75 rfl (fun _ => (hc2.1 c3).1) (hc2.1 c3).2
  · refine X_iload_n dX12_isWord_40 rfl ?_
    refine X_if_eq dX12_isWord_41 (tgt := 74) rfl (fun c4 => ?_) (fun c4 => ?_)
    · refine X_iload_n dX12_isWord_74 rfl ?_
      exact X_ret (z := x2) dX12_isWord_75 rfl (fun _ => ((hc2.2 c3).1 c4).1) ((hc2.2 c3).1 c4).2
    · refine X_aload_n dX12_isWord_44 rfl ?_
      refine X_aload_n dX12_isWord_45 rfl ?_
      refine X_getfield (ci := 12) (k := 4) (v := vi (V1 x0 4)) dX12_isWord_46 rfl (by decide) kf_RX12_198 rfl ((hc2.2 c3).2 c4).1 ?_
      refine X_iload_n dX12_isWord_49 rfl ?_
      refine X_iaddN dX12_isWord_50 ((hc2.2 c3).2 c4).2.1 ((hc2.2 c3).2 c4).2.2.1 ?_
      refine X_invV (ci := 12) (as := [vi ((V1 x0 4) + x3)]) (st := []) okX12_at dX12_isWord_51 km_RX12_201 rfl rfl (Nat.le_of_ble_eq_true rfl) rfl rfl ((hc2.2 c3).2 c4).1 (CT.imp ((hc2.2 c3).2 c4).2.2.2 (fun z5 S5 V5 mc5 ms5 hc6 => ?_))
      refine X_aload_n dX12_isWord_54 rfl ?_
      refine X_iload_n dX12_isWord_55 rfl ?_
      refine X_invStr (i := i) (as := [vi x3]) (st := [vi z5]) okJ0_charAt_5068e dX12_isWord_56 km_RX12_229 rfl rfl (Nat.le_of_ble_eq_true rfl) hi rfl (CT.imp hc6 (fun z7 S7 V7 mc7 ms7 hc8 => ?_))
      refine X_icmp_ne dX12_isWord_59 (tgt := 66) rfl (fun c9 => ?_) (fun c9 => ?_)
      · refine X_iconst dX12_isWord_66 (by decide) ?_
        refine X_istore_n dX12_isWord_67 (by decide) rfl ?_
        refine X_iincN dX12_isWord_68 rfl (by decide) rfl (e := x3 + 1) rfl (hc8.1 c9).1 (hc8.1 c9).2.1 ?_
        refine X_goto dX12_isWord_71 (tgt := 32) rfl ?_
        exact (hc8.1 c9).2.2
      · refine X_iconst dX12_isWord_62 (by decide) ?_
        refine X_goto dX12_isWord_63 (tgt := 67) rfl ?_
        refine X_istore_n dX12_isWord_67 (by decide) rfl ?_
        refine X_iincN dX12_isWord_68 rfl (by decide) rfl (e := x3 + 1) rfl (hc8.2 c9).1 (hc8.2 c9).2.1 ?_
        refine X_goto dX12_isWord_71 (tgt := 32) rfl ?_
        exact (hc8.2 c9).2.2
theorem qX12_isWord {l : Launch} {G : GT} {Q : Int → Sh → Mem → Prop} {d : Nat} {S : Sh} {V : Mem} {mc ms : Nat} {i : Nat} (hi : i < 16) {x0 : Int} (h : 0 ≤ x0 → XJ l G bX12_isWord Q d 0 [vr x0, vr ((G.2.2.2.1 i : Int) + 1), vu, vu] [] S V mc ms) : Ct l G bX12_isWord Q d mc ms [vr x0, vr ((G.2.2.2.1 i : Int) + 1)] S V := Ct.of okX12_isWord.1 trivial (Nat.le_of_ble_eq_true rfl) (fun hv => h (hv _ (List.mem_of_getElem? (i := 0) rfl)))
set_option maxRecDepth 10000 in
theorem vX12_isKeyword_0 {l : Launch} {G : GT} {Q : Int → Sh → Mem → Prop} {d : Nat} {S : Sh} {V : Mem} {mc ms : Nat} {x0 : Int} (h : S.1 x0 = 13 ∧ CT l G bX12_isWord d mc ms [vr x0, vr ((G.2.2.2.1 4 : Int) + 1)] S V (fun z1 S1 V1 mc1 ms1 => (z1 ≠ 0 → Q 1 S1 V1) ∧ (¬ (z1 ≠ 0) → S1.1 x0 = 13 ∧ CT l G bX12_isWord d mc1 ms1 [vr x0, vr ((G.2.2.2.1 5 : Int) + 1)] S1 V1 (fun z4 S4 V4 mc4 ms4 => (z4 ≠ 0 → Q 1 S4 V4) ∧ (¬ (z4 ≠ 0) → S4.1 x0 = 13 ∧ CT l G bX12_isWord d mc4 ms4 [vr x0, vr ((G.2.2.2.1 6 : Int) + 1)] S4 V4 (fun z7 S7 V7 mc7 ms7 => (z7 ≠ 0 → Q 1 S7 V7) ∧ (¬ (z7 ≠ 0) → S7.1 x0 = 13 ∧ CT l G bX12_isWord d mc7 ms7 [vr x0, vr ((G.2.2.2.1 7 : Int) + 1)] S7 V7 (fun z10 S10 V10 mc10 ms10 => (z10 ≠ 0 → Q 1 S10 V10) ∧ (¬ (z10 ≠ 0) → S10.1 x0 = 13 ∧ CT l G bX12_isWord d mc10 ms10 [vr x0, vr ((G.2.2.2.1 8 : Int) + 1)] S10 V10 (fun z13 S13 V13 mc13 ms13 => (z13 ≠ 0 → Q 1 S13 V13) ∧ (¬ (z13 ≠ 0) → S13.1 x0 = 13 ∧ CT l G bX12_isWord d mc13 ms13 [vr x0, vr ((G.2.2.2.1 9 : Int) + 1)] S13 V13 (fun z16 S16 V16 mc16 ms16 => (z16 ≠ 0 → Q 1 S16 V16) ∧ (¬ (z16 ≠ 0) → S16.1 x0 = 13 ∧ CT l G bX12_isWord d mc16 ms16 [vr x0, vr ((G.2.2.2.1 10 : Int) + 1)] S16 V16 (fun z19 S19 V19 mc19 ms19 => (z19 ≠ 0 → Q 1 S19 V19) ∧ (¬ (z19 ≠ 0) → S19.1 x0 = 13 ∧ CT l G bX12_isWord d mc19 ms19 [vr x0, vr ((G.2.2.2.1 11 : Int) + 1)] S19 V19 (fun z22 S22 V22 mc22 ms22 => (z22 ≠ 0 → Q 1 S22 V22) ∧ (¬ (z22 ≠ 0) → S22.1 x0 = 13 ∧ CT l G bX12_isWord d mc22 ms22 [vr x0, vr ((G.2.2.2.1 12 : Int) + 1)] S22 V22 (fun z25 S25 V25 mc25 ms25 => (z25 ≠ 0 → Q 1 S25 V25) ∧ (¬ (z25 ≠ 0) → S25.1 x0 = 13 ∧ CT l G bX12_isWord d mc25 ms25 [vr x0, vr ((G.2.2.2.1 13 : Int) + 1)] S25 V25 (fun z28 S28 V28 mc28 ms28 => (z28 ≠ 0 → Q 1 S28 V28) ∧ (¬ (z28 ≠ 0) → S28.1 x0 = 13 ∧ CT l G bX12_isWord d mc28 ms28 [vr x0, vr ((G.2.2.2.1 14 : Int) + 1)] S28 V28 (fun z31 S31 V31 mc31 ms31 => (z31 ≠ 0 → Q 1 S31 V31) ∧ (¬ (z31 ≠ 0) → S31.1 x0 = 13 ∧ CT l G bX12_isWord d mc31 ms31 [vr x0, vr ((G.2.2.2.1 15 : Int) + 1)] S31 V31 (fun z34 S34 V34 mc34 ms34 => (z34 = 0 → Q 0 S34 V34) ∧ (¬ (z34 = 0) → Q 1 S34 V34))))))))))))))))))))))))) : XJ l G bX12_isKeyword Q d 0 [vr x0] [] S V mc ms := by
  refine X_aload_n dX12_isKeyword_0 rfl ?_
  refine X_ldcS (i := 4) dX12_isKeyword_1 (by decide) ⟨rfl, rfl⟩ ?_
  refine X_invV (ci := 12) (as := [vr ((G.2.2.2.1 4 : Int) + 1)]) (st := []) okX12_isWord dX12_isKeyword_3 km_RX12_235 rfl rfl (Nat.le_of_ble_eq_true rfl) rfl rfl h.1 (CT.imp h.2 (fun z1 S1 V1 mc1 ms1 hc2 => ?_))
  refine X_if_ne dX12_isKeyword_6 (tgt := 109) rfl (fun c3 => ?_) (fun c3 => ?_)
  · refine X_iconst dX12_isKeyword_109 (by decide) ?_
    refine X_goto dX12_isKeyword_110 (tgt := 114) rfl ?_
    exact X_ret (z := 1) dX12_isKeyword_114 rfl (fun _ => Or.inr rfl) (hc2.1 c3)
  · refine X_aload_n dX12_isKeyword_9 rfl ?_
    refine X_ldcS (i := 5) dX12_isKeyword_10 (by decide) ⟨rfl, rfl⟩ ?_
    refine X_invV (ci := 12) (as := [vr ((G.2.2.2.1 5 : Int) + 1)]) (st := []) okX12_isWord dX12_isKeyword_12 km_RX12_235 rfl rfl (Nat.le_of_ble_eq_true rfl) rfl rfl (hc2.2 c3).1 (CT.imp (hc2.2 c3).2 (fun z4 S4 V4 mc4 ms4 hc5 => ?_))
    refine X_if_ne dX12_isKeyword_15 (tgt := 109) rfl (fun c6 => ?_) (fun c6 => ?_)
    · refine X_iconst dX12_isKeyword_109 (by decide) ?_
      refine X_goto dX12_isKeyword_110 (tgt := 114) rfl ?_
      exact X_ret (z := 1) dX12_isKeyword_114 rfl (fun _ => Or.inr rfl) (hc5.1 c6)
    · refine X_aload_n dX12_isKeyword_18 rfl ?_
      refine X_ldcS (i := 6) dX12_isKeyword_19 (by decide) ⟨rfl, rfl⟩ ?_
      refine X_invV (ci := 12) (as := [vr ((G.2.2.2.1 6 : Int) + 1)]) (st := []) okX12_isWord dX12_isKeyword_21 km_RX12_235 rfl rfl (Nat.le_of_ble_eq_true rfl) rfl rfl (hc5.2 c6).1 (CT.imp (hc5.2 c6).2 (fun z7 S7 V7 mc7 ms7 hc8 => ?_))
      refine X_if_ne dX12_isKeyword_24 (tgt := 109) rfl (fun c9 => ?_) (fun c9 => ?_)
      · refine X_iconst dX12_isKeyword_109 (by decide) ?_
        refine X_goto dX12_isKeyword_110 (tgt := 114) rfl ?_
        exact X_ret (z := 1) dX12_isKeyword_114 rfl (fun _ => Or.inr rfl) (hc8.1 c9)
      · refine X_aload_n dX12_isKeyword_27 rfl ?_
        refine X_ldcS (i := 7) dX12_isKeyword_28 (by decide) ⟨rfl, rfl⟩ ?_
        refine X_invV (ci := 12) (as := [vr ((G.2.2.2.1 7 : Int) + 1)]) (st := []) okX12_isWord dX12_isKeyword_30 km_RX12_235 rfl rfl (Nat.le_of_ble_eq_true rfl) rfl rfl (hc8.2 c9).1 (CT.imp (hc8.2 c9).2 (fun z10 S10 V10 mc10 ms10 hc11 => ?_))
        refine X_if_ne dX12_isKeyword_33 (tgt := 109) rfl (fun c12 => ?_) (fun c12 => ?_)
        · refine X_iconst dX12_isKeyword_109 (by decide) ?_
          refine X_goto dX12_isKeyword_110 (tgt := 114) rfl ?_
          exact X_ret (z := 1) dX12_isKeyword_114 rfl (fun _ => Or.inr rfl) (hc11.1 c12)
        · refine X_aload_n dX12_isKeyword_36 rfl ?_
          refine X_ldcS (i := 8) dX12_isKeyword_37 (by decide) ⟨rfl, rfl⟩ ?_
          refine X_invV (ci := 12) (as := [vr ((G.2.2.2.1 8 : Int) + 1)]) (st := []) okX12_isWord dX12_isKeyword_39 km_RX12_235 rfl rfl (Nat.le_of_ble_eq_true rfl) rfl rfl (hc11.2 c12).1 (CT.imp (hc11.2 c12).2 (fun z13 S13 V13 mc13 ms13 hc14 => ?_))
          refine X_if_ne dX12_isKeyword_42 (tgt := 109) rfl (fun c15 => ?_) (fun c15 => ?_)
          · refine X_iconst dX12_isKeyword_109 (by decide) ?_
            refine X_goto dX12_isKeyword_110 (tgt := 114) rfl ?_
            exact X_ret (z := 1) dX12_isKeyword_114 rfl (fun _ => Or.inr rfl) (hc14.1 c15)
          · refine X_aload_n dX12_isKeyword_45 rfl ?_
            refine X_ldcS (i := 9) dX12_isKeyword_46 (by decide) ⟨rfl, rfl⟩ ?_
            refine X_invV (ci := 12) (as := [vr ((G.2.2.2.1 9 : Int) + 1)]) (st := []) okX12_isWord dX12_isKeyword_48 km_RX12_235 rfl rfl (Nat.le_of_ble_eq_true rfl) rfl rfl (hc14.2 c15).1 (CT.imp (hc14.2 c15).2 (fun z16 S16 V16 mc16 ms16 hc17 => ?_))
            refine X_if_ne dX12_isKeyword_51 (tgt := 109) rfl (fun c18 => ?_) (fun c18 => ?_)
            · refine X_iconst dX12_isKeyword_109 (by decide) ?_
              refine X_goto dX12_isKeyword_110 (tgt := 114) rfl ?_
              exact X_ret (z := 1) dX12_isKeyword_114 rfl (fun _ => Or.inr rfl) (hc17.1 c18)
            · refine X_aload_n dX12_isKeyword_54 rfl ?_
              refine X_ldcS (i := 10) dX12_isKeyword_55 (by decide) ⟨rfl, rfl⟩ ?_
              refine X_invV (ci := 12) (as := [vr ((G.2.2.2.1 10 : Int) + 1)]) (st := []) okX12_isWord dX12_isKeyword_57 km_RX12_235 rfl rfl (Nat.le_of_ble_eq_true rfl) rfl rfl (hc17.2 c18).1 (CT.imp (hc17.2 c18).2 (fun z19 S19 V19 mc19 ms19 hc20 => ?_))
              refine X_if_ne dX12_isKeyword_60 (tgt := 109) rfl (fun c21 => ?_) (fun c21 => ?_)
              · refine X_iconst dX12_isKeyword_109 (by decide) ?_
                refine X_goto dX12_isKeyword_110 (tgt := 114) rfl ?_
                exact X_ret (z := 1) dX12_isKeyword_114 rfl (fun _ => Or.inr rfl) (hc20.1 c21)
              · refine X_aload_n dX12_isKeyword_63 rfl ?_
                refine X_ldcS (i := 11) dX12_isKeyword_64 (by decide) ⟨rfl, rfl⟩ ?_
                refine X_invV (ci := 12) (as := [vr ((G.2.2.2.1 11 : Int) + 1)]) (st := []) okX12_isWord dX12_isKeyword_66 km_RX12_235 rfl rfl (Nat.le_of_ble_eq_true rfl) rfl rfl (hc20.2 c21).1 (CT.imp (hc20.2 c21).2 (fun z22 S22 V22 mc22 ms22 hc23 => ?_))
                refine X_if_ne dX12_isKeyword_69 (tgt := 109) rfl (fun c24 => ?_) (fun c24 => ?_)
                · refine X_iconst dX12_isKeyword_109 (by decide) ?_
                  refine X_goto dX12_isKeyword_110 (tgt := 114) rfl ?_
                  exact X_ret (z := 1) dX12_isKeyword_114 rfl (fun _ => Or.inr rfl) (hc23.1 c24)
                · refine X_aload_n dX12_isKeyword_72 rfl ?_
                  refine X_ldcS (i := 12) dX12_isKeyword_73 (by decide) ⟨rfl, rfl⟩ ?_
                  refine X_invV (ci := 12) (as := [vr ((G.2.2.2.1 12 : Int) + 1)]) (st := []) okX12_isWord dX12_isKeyword_75 km_RX12_235 rfl rfl (Nat.le_of_ble_eq_true rfl) rfl rfl (hc23.2 c24).1 (CT.imp (hc23.2 c24).2 (fun z25 S25 V25 mc25 ms25 hc26 => ?_))
                  refine X_if_ne dX12_isKeyword_78 (tgt := 109) rfl (fun c27 => ?_) (fun c27 => ?_)
                  · refine X_iconst dX12_isKeyword_109 (by decide) ?_
                    refine X_goto dX12_isKeyword_110 (tgt := 114) rfl ?_
                    exact X_ret (z := 1) dX12_isKeyword_114 rfl (fun _ => Or.inr rfl) (hc26.1 c27)
                  · refine X_aload_n dX12_isKeyword_81 rfl ?_
                    refine X_ldcS (i := 13) dX12_isKeyword_82 (by decide) ⟨rfl, rfl⟩ ?_
                    refine X_invV (ci := 12) (as := [vr ((G.2.2.2.1 13 : Int) + 1)]) (st := []) okX12_isWord dX12_isKeyword_84 km_RX12_235 rfl rfl (Nat.le_of_ble_eq_true rfl) rfl rfl (hc26.2 c27).1 (CT.imp (hc26.2 c27).2 (fun z28 S28 V28 mc28 ms28 hc29 => ?_))
                    refine X_if_ne dX12_isKeyword_87 (tgt := 109) rfl (fun c30 => ?_) (fun c30 => ?_)
                    · refine X_iconst dX12_isKeyword_109 (by decide) ?_
                      refine X_goto dX12_isKeyword_110 (tgt := 114) rfl ?_
                      exact X_ret (z := 1) dX12_isKeyword_114 rfl (fun _ => Or.inr rfl) (hc29.1 c30)
                    · refine X_aload_n dX12_isKeyword_90 rfl ?_
                      refine X_ldcS (i := 14) dX12_isKeyword_91 (by decide) ⟨rfl, rfl⟩ ?_
                      refine X_invV (ci := 12) (as := [vr ((G.2.2.2.1 14 : Int) + 1)]) (st := []) okX12_isWord dX12_isKeyword_93 km_RX12_235 rfl rfl (Nat.le_of_ble_eq_true rfl) rfl rfl (hc29.2 c30).1 (CT.imp (hc29.2 c30).2 (fun z31 S31 V31 mc31 ms31 hc32 => ?_))
                      refine X_if_ne dX12_isKeyword_96 (tgt := 109) rfl (fun c33 => ?_) (fun c33 => ?_)
                      · refine X_iconst dX12_isKeyword_109 (by decide) ?_
                        refine X_goto dX12_isKeyword_110 (tgt := 114) rfl ?_
                        exact X_ret (z := 1) dX12_isKeyword_114 rfl (fun _ => Or.inr rfl) (hc32.1 c33)
                      · refine X_aload_n dX12_isKeyword_99 rfl ?_
                        refine X_ldcwS (i := 15) dX12_isKeyword_100 (by decide) ⟨rfl, rfl⟩ ?_
                        refine X_invV (ci := 12) (as := [vr ((G.2.2.2.1 15 : Int) + 1)]) (st := []) okX12_isWord dX12_isKeyword_103 km_RX12_235 rfl rfl (Nat.le_of_ble_eq_true rfl) rfl rfl (hc32.2 c33).1 (CT.imp (hc32.2 c33).2 (fun z34 S34 V34 mc34 ms34 hc35 => ?_))
                        refine X_if_eq dX12_isKeyword_106 (tgt := 113) rfl (fun c36 => ?_) (fun c36 => ?_)
                        · refine X_iconst dX12_isKeyword_113 (by decide) ?_
                          exact X_ret (z := 0) dX12_isKeyword_114 rfl (fun _ => Or.inl rfl) (hc35.1 c36)
                        · refine X_iconst dX12_isKeyword_109 (by decide) ?_
                          refine X_goto dX12_isKeyword_110 (tgt := 114) rfl ?_
                          exact X_ret (z := 1) dX12_isKeyword_114 rfl (fun _ => Or.inr rfl) (hc35.2 c36)
theorem qX12_isKeyword {l : Launch} {G : GT} {Q : Int → Sh → Mem → Prop} {d : Nat} {S : Sh} {V : Mem} {mc ms : Nat} {x0 : Int} (h : 0 ≤ x0 → XJ l G bX12_isKeyword Q d 0 [vr x0] [] S V mc ms) : Ct l G bX12_isKeyword Q d mc ms [vr x0] S V := Ct.of okX12_isKeyword.1 trivial (Nat.le_of_ble_eq_true rfl) (fun hv => h (hv _ (List.mem_of_getElem? (i := 0) rfl)))
set_option maxRecDepth 10000 in
theorem vX12_isName_0 {l : Launch} {G : GT} {Q : Int → Sh → Mem → Prop} {d : Nat} {S : Sh} {V : Mem} {mc ms : Nat} {x0 : Int} (h : S.1 x0 = 13 ∧ ((V x0 3) ≠ 2 → Q 0 S V) ∧ (¬ ((V x0 3) ≠ 2) → CT l G bX12_isKeyword d mc ms [vr x0] S V (fun z2 S2 V2 mc2 ms2 => (z2 ≠ 0 → Q 0 S2 V2) ∧ (¬ (z2 ≠ 0) → Q 1 S2 V2)))) : XJ l G bX12_isName Q d 0 [vr x0] [] S V mc ms := by
  refine X_aload_n dX12_isName_0 rfl ?_
  refine X_getfield (ci := 12) (k := 3) (v := vi (V x0 3)) dX12_isName_1 rfl (by decide) kf_RX12_205 rfl h.1 ?_
  refine X_iconst dX12_isName_4 (by decide) ?_
  refine X_icmp_ne dX12_isName_5 (tgt := 19) rfl (fun c1 => ?_) (fun c1 => ?_)
  · refine X_iconst dX12_isName_19 (by decide) ?_
    exact X_ret (z := 0) dX12_isName_20 rfl (fun _ => Or.inl rfl) (h.2.1 c1)
  · refine X_aload_n dX12_isName_8 rfl ?_
    refine X_invV (ci := 12) (as := []) (st := []) okX12_isKeyword dX12_isName_9 km_RX12_259 rfl rfl (Nat.le_of_ble_eq_true rfl) rfl rfl h.1 (CT.imp (h.2.2 c1) (fun z2 S2 V2 mc2 ms2 hc3 => ?_))
    refine X_if_ne dX12_isName_12 (tgt := 19) rfl (fun c4 => ?_) (fun c4 => ?_)
    · refine X_iconst dX12_isName_19 (by decide) ?_
      exact X_ret (z := 0) dX12_isName_20 rfl (fun _ => Or.inl rfl) (hc3.1 c4)
    · refine X_iconst dX12_isName_15 (by decide) ?_
      refine X_goto dX12_isName_16 (tgt := 20) rfl ?_
      exact X_ret (z := 1) dX12_isName_20 rfl (fun _ => Or.inr rfl) (hc3.2 c4)
theorem qX12_isName {l : Launch} {G : GT} {Q : Int → Sh → Mem → Prop} {d : Nat} {S : Sh} {V : Mem} {mc ms : Nat} {x0 : Int} (h : 0 ≤ x0 → XJ l G bX12_isName Q d 0 [vr x0] [] S V mc ms) : Ct l G bX12_isName Q d mc ms [vr x0] S V := Ct.of okX12_isName.1 trivial (Nat.le_of_ble_eq_true rfl) (fun hv => h (hv _ (List.mem_of_getElem? (i := 0) rfl)))
set_option maxRecDepth 10000 in
theorem vX12_nameHere_0 {l : Launch} {G : GT} {Q : Int → Sh → Mem → Prop} {d : Nat} {S : Sh} {V : Mem} {mc ms : Nat} {x0 : Int} (h : S.1 x0 = 13 ∧ -2147483648 ≤ 3000 * (V x0 9) ∧ 3000 * (V x0 9) ≤ 2147483647 ∧ -2147483648 ≤ (3000 * (V x0 9)) + (V x0 4) ∧ (3000 * (V x0 9)) + (V x0 4) ≤ 2147483647 ∧ -2147483648 ≤ 16 * ((3000 * (V x0 9)) + (V x0 4)) ∧ 16 * ((3000 * (V x0 9)) + (V x0 4)) ≤ 2147483647 ∧ -2147483648 ≤ (16 * ((3000 * (V x0 9)) + (V x0 4))) + (V x0 5) ∧ (16 * ((3000 * (V x0 9)) + (V x0 4))) + (V x0 5) ≤ 2147483647 ∧ -2147483648 ≤ ((16 * ((3000 * (V x0 9)) + (V x0 4))) + (V x0 5)) - (V x0 4) ∧ ((16 * ((3000 * (V x0 9)) + (V x0 4))) + (V x0 5)) - (V x0 4) ≤ 2147483647 ∧ Q (((16 * ((3000 * (V x0 9)) + (V x0 4))) + (V x0 5)) - (V x0 4)) S V) : XJ l G bX12_nameHere Q d 0 [vr x0] [] S V mc ms := by
  refine X_bipush dX12_nameHere_0 (by decide) (by decide) ?_
  refine X_sipush dX12_nameHere_2 (by decide) (by decide) ?_
  refine X_aload_n dX12_nameHere_5 rfl ?_
  refine X_getfield (ci := 12) (k := 9) (v := vi (V x0 9)) dX12_nameHere_6 rfl (by decide) kf_RX12_263 rfl h.1 ?_
  refine X_imulN dX12_nameHere_9 h.2.1 h.2.2.1 ?_
  refine X_aload_n dX12_nameHere_10 rfl ?_
  refine X_getfield (ci := 12) (k := 4) (v := vi (V x0 4)) dX12_nameHere_11 rfl (by decide) kf_RX12_198 rfl h.1 ?_
  refine X_iaddN dX12_nameHere_14 h.2.2.2.1 h.2.2.2.2.1 ?_
  refine X_imulN dX12_nameHere_15 h.2.2.2.2.2.1 h.2.2.2.2.2.2.1 ?_
  refine X_aload_n dX12_nameHere_16 rfl ?_
  refine X_getfield (ci := 12) (k := 5) (v := vi (V x0 5)) dX12_nameHere_17 rfl (by decide) kf_RX12_195 rfl h.1 ?_
  refine X_iaddN dX12_nameHere_20 h.2.2.2.2.2.2.2.1 h.2.2.2.2.2.2.2.2.1 ?_
  refine X_aload_n dX12_nameHere_21 rfl ?_
  refine X_getfield (ci := 12) (k := 4) (v := vi (V x0 4)) dX12_nameHere_22 rfl (by decide) kf_RX12_198 rfl h.1 ?_
  refine X_isubN dX12_nameHere_25 h.2.2.2.2.2.2.2.2.2.1 h.2.2.2.2.2.2.2.2.2.2.1 ?_
  exact X_ret (z := (((16 * ((3000 * (V x0 9)) + (V x0 4))) + (V x0 5)) - (V x0 4))) dX12_nameHere_26 rfl (fun hv => vok_h hv) h.2.2.2.2.2.2.2.2.2.2.2
theorem qX12_nameHere {l : Launch} {G : GT} {Q : Int → Sh → Mem → Prop} {d : Nat} {S : Sh} {V : Mem} {mc ms : Nat} {x0 : Int} (h : 0 ≤ x0 → XJ l G bX12_nameHere Q d 0 [vr x0] [] S V mc ms) : Ct l G bX12_nameHere Q d mc ms [vr x0] S V := Ct.of okX12_nameHere.1 trivial (Nat.le_of_ble_eq_true rfl) (fun hv => h (hv _ (List.mem_of_getElem? (i := 0) rfl)))
set_option maxRecDepth 10000 in
theorem vX12_isSame_0 {l : Launch} {G : GT} {Q : Int → Sh → Mem → Prop} {d : Nat} {S : Sh} {V : Mem} {mc ms : Nat} {x0 x1 x2 : Int} (h : ((x1.tmod 16) = (x2.tmod 16) → XJ l G bX12_isSame Q d 18 [vr x0, vi x1, vi x2, vi (x1.tmod 16), vi 0] [] S V mc ms) ∧ (¬ ((x1.tmod 16) = (x2.tmod 16)) → Q 0 S V)) : XJ l G bX12_isSame Q d 0 [vr x0, vi x1, vi x2, vu, vu] [] S V mc ms := by
  refine X_iload_n dX12_isSame_0 rfl ?_
  refine X_bipush dX12_isSame_1 (by decide) (by decide) ?_
  refine X_iremP dX12_isSame_3 (by decide) ?_
  refine X_istore_n dX12_isSame_4 (by decide) rfl ?_
  refine X_iload_n dX12_isSame_5 rfl ?_
  refine X_iload_n dX12_isSame_6 rfl ?_
  refine X_bipush dX12_isSame_7 (by decide) (by decide) ?_
  refine X_iremP dX12_isSame_9 (by decide) ?_
  refine X_icmp_eq dX12_isSame_10 (tgt := 15) rfl (fun c1 => ?_) (fun c1 => ?_)
  · refine X_iconst dX12_isSame_15 (by decide) ?_
    refine X_istore dX12_isSame_16 (by decide) rfl ?_
    exact (h.1 c1)
  · refine X_iconst dX12_isSame_13 (by decide) ?_
    exact X_ret (z := 0) dX12_isSame_14 rfl (fun _ => Or.inl rfl) (h.2 c1)
set_option maxRecDepth 10000 in
theorem vX12_isSame_18 {l : Launch} {G : GT} {Q : Int → Sh → Mem → Prop} {d : Nat} {S : Sh} {V : Mem} {mc ms : Nat} {x0 x1 x2 x3 x4 : Int} (h : (x3 ≤ x4 → Q 1 S V) ∧ (¬ (x3 ≤ x4) → S.1 x0 = 13 ∧ -2147483648 ≤ (x1.tdiv 16) + x4 ∧ (x1.tdiv 16) + x4 ≤ 2147483647 ∧ S.1 (V x0 7) = 21 ∧ 0 ≤ ((x1.tdiv 16) + x4) ∧ ((x1.tdiv 16) + x4) < S.2.1 (V x0 7) ∧ -2147483648 ≤ (x2.tdiv 16) + x4 ∧ (x2.tdiv 16) + x4 ≤ 2147483647 ∧ 0 ≤ ((x2.tdiv 16) + x4) ∧ ((x2.tdiv 16) + x4) < S.2.1 (V x0 7) ∧ ((V (V x0 7) ((x1.tdiv 16) + x4)) = (V (V x0 7) ((x2.tdiv 16) + x4)) → -2147483648 ≤ x4 + 1 ∧ x4 + 1 ≤ 2147483647 ∧ XJ l G bX12_isSame Q d 18 [vr x0, vi x1, vi x2, vi x3, vi (x4 + 1)] [] S V mc ms) ∧ (¬ ((V (V x0 7) ((x1.tdiv 16) + x4)) = (V (V x0 7) ((x2.tdiv 16) + x4))) → Q 0 S V))) : XJ l G bX12_isSame Q d 18 [vr x0, vi x1, vi x2, vi x3, vi x4] [] S V mc ms := by
  refine X_iload dX12_isSame_18 rfl ?_
  refine X_iload_n dX12_isSame_20 rfl ?_
  refine X_icmp_ge dX12_isSame_21 (tgt := 59) rfl (fun c1 => ?_) (fun c1 => ?_)
  · refine X_iconst dX12_isSame_59 (by decide) ?_
    exact X_ret (z := 1) dX12_isSame_60 rfl (fun _ => Or.inr rfl) (h.1 c1)
  · refine X_aload_n dX12_isSame_24 rfl ?_
    refine X_getfield (ci := 12) (k := 7) (v := vr (V x0 7)) dX12_isSame_25 rfl (by decide) kf_RX12_13 rfl (h.2 c1).1 ?_
    refine X_iload_n dX12_isSame_28 rfl ?_
    refine X_bipush dX12_isSame_29 (by decide) (by decide) ?_
    refine X_idivP dX12_isSame_31 (by decide) ?_
    refine X_iload dX12_isSame_32 rfl ?_
    refine X_iaddN dX12_isSame_34 (h.2 c1).2.1 (h.2 c1).2.2.1 ?_
    refine X_baload dX12_isSame_35 (h.2 c1).2.2.2.1 (h.2 c1).2.2.2.2.1 (h.2 c1).2.2.2.2.2.1 ?_
    refine X_aload_n dX12_isSame_36 rfl ?_
    refine X_getfield (ci := 12) (k := 7) (v := vr (V x0 7)) dX12_isSame_37 rfl (by decide) kf_RX12_13 rfl (h.2 c1).1 ?_
    refine X_iload_n dX12_isSame_40 rfl ?_
    refine X_bipush dX12_isSame_41 (by decide) (by decide) ?_
    refine X_idivP dX12_isSame_43 (by decide) ?_
    refine X_iload dX12_isSame_44 rfl ?_
    refine X_iaddN dX12_isSame_46 (h.2 c1).2.2.2.2.2.2.1 (h.2 c1).2.2.2.2.2.2.2.1 ?_
    refine X_baload dX12_isSame_47 (h.2 c1).2.2.2.1 (h.2 c1).2.2.2.2.2.2.2.2.1 (h.2 c1).2.2.2.2.2.2.2.2.2.1 ?_
    refine X_icmp_eq dX12_isSame_48 (tgt := 53) rfl (fun c2 => ?_) (fun c2 => ?_)
    · refine X_iincN dX12_isSame_53 rfl (by decide) rfl (e := x4 + 1) rfl ((h.2 c1).2.2.2.2.2.2.2.2.2.2.1 c2).1 ((h.2 c1).2.2.2.2.2.2.2.2.2.2.1 c2).2.1 ?_
      refine X_goto dX12_isSame_56 (tgt := 18) rfl ?_
      exact ((h.2 c1).2.2.2.2.2.2.2.2.2.2.1 c2).2.2
    · refine X_iconst dX12_isSame_51 (by decide) ?_
      exact X_ret (z := 0) dX12_isSame_52 rfl (fun _ => Or.inl rfl) ((h.2 c1).2.2.2.2.2.2.2.2.2.2.2 c2)
theorem qX12_isSame {l : Launch} {G : GT} {Q : Int → Sh → Mem → Prop} {d : Nat} {S : Sh} {V : Mem} {mc ms : Nat} {x0 x1 x2 : Int} (h : 0 ≤ x0 → inI x1 → inI x2 → XJ l G bX12_isSame Q d 0 [vr x0, vi x1, vi x2, vu, vu] [] S V mc ms) : Ct l G bX12_isSame Q d mc ms [vr x0, vi x1, vi x2] S V := Ct.of okX12_isSame.1 trivial (Nat.le_of_ble_eq_true rfl) (fun hv => h (hv _ (List.mem_of_getElem? (i := 0) rfl)) (hv _ (List.mem_of_getElem? (i := 1) rfl)) (hv _ (List.mem_of_getElem? (i := 2) rfl)))
set_option maxRecDepth 10000 in
theorem vX12_isTwo_0 {l : Launch} {G : GT} {Q : Int → Sh → Mem → Prop} {d : Nat} {S : Sh} {V : Mem} {mc ms : Nat} {x0 : Int} (h : (x0 < 2 → Q 0 S V) ∧ (¬ (x0 < 2) → (5 < x0 → Q 0 S V) ∧ (¬ (5 < x0) → Q 1 S V))) : XJ l G bX12_isTwo Q d 0 [vi x0] [] S V mc ms := by
  refine X_iload_n dX12_isTwo_0 rfl ?_
  refine X_iconst dX12_isTwo_1 (by decide) ?_
  refine X_icmp_lt dX12_isTwo_2 (tgt := 14) rfl (fun c1 => ?_) (fun c1 => ?_)
  · refine X_iconst dX12_isTwo_14 (by decide) ?_
    exact X_ret (z := 0) dX12_isTwo_15 rfl (fun _ => Or.inl rfl) (h.1 c1)
  · refine X_iload_n dX12_isTwo_5 rfl ?_
    refine X_iconst dX12_isTwo_6 (by decide) ?_
    refine X_icmp_gt dX12_isTwo_7 (tgt := 14) rfl (fun c2 => ?_) (fun c2 => ?_)
    · refine X_iconst dX12_isTwo_14 (by decide) ?_
      exact X_ret (z := 0) dX12_isTwo_15 rfl (fun _ => Or.inl rfl) ((h.2 c1).1 c2)
    · refine X_iconst dX12_isTwo_10 (by decide) ?_
      refine X_goto dX12_isTwo_11 (tgt := 15) rfl ?_
      exact X_ret (z := 1) dX12_isTwo_15 rfl (fun _ => Or.inr rfl) ((h.2 c1).2 c2)
theorem qX12_isTwo {l : Launch} {G : GT} {Q : Int → Sh → Mem → Prop} {d : Nat} {S : Sh} {V : Mem} {mc ms : Nat} {x0 : Int} (h : inI x0 → XJ l G bX12_isTwo Q d 0 [vi x0] [] S V mc ms) : Ct l G bX12_isTwo Q d mc ms [vi x0] S V := Ct.of okX12_isTwo.1 trivial (Nat.le_of_ble_eq_true rfl) (fun hv => h (hv _ (List.mem_of_getElem? (i := 0) rfl)))
set_option maxRecDepth 10000 in
theorem vX12_expression_0 {l : Launch} {G : GT} {Q : Int → Sh → Mem → Prop} {d : Nat} {S : Sh} {V : Mem} {mc ms : Nat} {x0 x1 x2 x3 : Int} (h : S.1 x0 = 13 ∧ S.1 (V x0 35) = 20 ∧ 0 ≤ (V x0 40) ∧ (V x0 40) < S.2.1 (V x0 35) ∧ S.1 (V x0 36) = 20 ∧ (V x0 40) < S.2.1 (V x0 36) ∧ S.1 (V x0 37) = 20 ∧ (V x0 40) < S.2.1 (V x0 37) ∧ S.1 (V x0 39) = 20 ∧ (V x0 40) < S.2.1 (V x0 39) ∧ CT l G bX12_isTwo d mc ms [vi x1] S (up (up (up (up V (V x0 35) (V x0 40) x1) (V x0 36) (V x0 40) x2) (V x0 37) (V x0 40) x3) (V x0 39) (V x0 40) (V x0 41)) (fun z1 S1 V1 mc1 ms1 => (z1 = 0 → S1.1 x0 = 13 ∧ -2147483648 ≤ (V1 x0 40) + 1 ∧ (V1 x0 40) + 1 ≤ 2147483647 ∧ -2147483648 ≤ ((V1 x0 40) + 1) - 1 ∧ ((V1 x0 40) + 1) - 1 ≤ 2147483647 ∧ Q (((V1 x0 40) + 1) - 1) S1 (up V1 x0 40 ((V1 x0 40) + 1))) ∧ (¬ (z1 = 0) → S1.1 x0 = 13 ∧ S1.1 (V1 x0 38) = 20 ∧ 0 ≤ x2 ∧ x2 < S1.2.1 (V1 x0 38) ∧ -2147483648 ≤ (V1 x0 40) + 1 ∧ (V1 x0 40) + 1 ≤ 2147483647 ∧ -2147483648 ≤ ((V1 x0 40) + 1) - 1 ∧ ((V1 x0 40) + 1) - 1 ≤ 2147483647 ∧ Q (((V1 x0 40) + 1) - 1) S1 (up (up V1 (V1 x0 38) x2 (V1 x0 40)) x0 40 ((V1 x0 40) + 1))))) : XJ l G bX12_expression Q d 0 [vr x0, vi x1, vi x2, vi x3] [] S V mc ms := by
  refine X_aload_n dX12_expression_0 rfl ?_
  refine X_getfield (ci := 12) (k := 35) (v := vr (V x0 35)) dX12_expression_1 rfl (by decide) kf_RX12_92 rfl h.1 ?_
  refine X_aload_n dX12_expression_4 rfl ?_
  refine X_getfield (ci := 12) (k := 40) (v := vi (V x0 40)) dX12_expression_5 rfl (by decide) kf_RX12_266 rfl h.1 ?_
  refine X_iload_n dX12_expression_8 rfl ?_
  refine X_iastore dX12_expression_9 h.2.1 h.2.2.1 h.2.2.2.1 ?_
  refine X_aload_n dX12_expression_10 rfl ?_
  refine X_getfield (ci := 12) (k := 36) (v := vr (V x0 36)) dX12_expression_11 rfl (by decide) kf_RX12_95 (congrArg vr (up_ne (Or.inl (tag_ne h.1 h.2.1 (by decide))))) h.1 ?_
  refine X_aload_n dX12_expression_14 rfl ?_
  refine X_getfield (ci := 12) (k := 40) (v := vi (V x0 40)) dX12_expression_15 rfl (by decide) kf_RX12_266 (congrArg vi (up_ne (Or.inl (tag_ne h.1 h.2.1 (by decide))))) h.1 ?_
  refine X_iload_n dX12_expression_18 rfl ?_
  refine X_iastore dX12_expression_19 h.2.2.2.2.1 h.2.2.1 h.2.2.2.2.2.1 ?_
  refine X_aload_n dX12_expression_20 rfl ?_
  refine X_getfield (ci := 12) (k := 37) (v := vr (V x0 37)) dX12_expression_21 rfl (by decide) kf_RX12_98 (congrArg vr ((up_ne (Or.inl (tag_ne h.1 h.2.2.2.2.1 (by decide)))).trans (up_ne (Or.inl (tag_ne h.1 h.2.1 (by decide)))))) h.1 ?_
  refine X_aload_n dX12_expression_24 rfl ?_
  refine X_getfield (ci := 12) (k := 40) (v := vi (V x0 40)) dX12_expression_25 rfl (by decide) kf_RX12_266 (congrArg vi ((up_ne (Or.inl (tag_ne h.1 h.2.2.2.2.1 (by decide)))).trans (up_ne (Or.inl (tag_ne h.1 h.2.1 (by decide)))))) h.1 ?_
  refine X_iload_n dX12_expression_28 rfl ?_
  refine X_iastore dX12_expression_29 h.2.2.2.2.2.2.1 h.2.2.1 h.2.2.2.2.2.2.2.1 ?_
  refine X_aload_n dX12_expression_30 rfl ?_
  refine X_getfield (ci := 12) (k := 39) (v := vr (V x0 39)) dX12_expression_31 rfl (by decide) kf_RX12_104 (congrArg vr ((up_ne (Or.inl (tag_ne h.1 h.2.2.2.2.2.2.1 (by decide)))).trans ((up_ne (Or.inl (tag_ne h.1 h.2.2.2.2.1 (by decide)))).trans (up_ne (Or.inl (tag_ne h.1 h.2.1 (by decide))))))) h.1 ?_
  refine X_aload_n dX12_expression_34 rfl ?_
  refine X_getfield (ci := 12) (k := 40) (v := vi (V x0 40)) dX12_expression_35 rfl (by decide) kf_RX12_266 (congrArg vi ((up_ne (Or.inl (tag_ne h.1 h.2.2.2.2.2.2.1 (by decide)))).trans ((up_ne (Or.inl (tag_ne h.1 h.2.2.2.2.1 (by decide)))).trans (up_ne (Or.inl (tag_ne h.1 h.2.1 (by decide))))))) h.1 ?_
  refine X_aload_n dX12_expression_38 rfl ?_
  refine X_getfield (ci := 12) (k := 41) (v := vi (V x0 41)) dX12_expression_39 rfl (by decide) kf_RX12_269 (congrArg vi ((up_ne (Or.inl (tag_ne h.1 h.2.2.2.2.2.2.1 (by decide)))).trans ((up_ne (Or.inl (tag_ne h.1 h.2.2.2.2.1 (by decide)))).trans (up_ne (Or.inl (tag_ne h.1 h.2.1 (by decide))))))) h.1 ?_
  refine X_iastore dX12_expression_42 h.2.2.2.2.2.2.2.2.1 h.2.2.1 h.2.2.2.2.2.2.2.2.2.1 ?_
  refine X_iload_n dX12_expression_43 rfl ?_
  refine X_invS (as := [vi x1]) (st := []) okX12_isTwo dX12_expression_44 km_RX12_272 rfl rfl (Nat.le_of_ble_eq_true rfl) (CT.imp h.2.2.2.2.2.2.2.2.2.2 (fun z1 S1 V1 mc1 ms1 hc2 => ?_))
  refine X_if_eq dX12_expression_47 (tgt := 60) rfl (fun c3 => ?_) (fun c3 => ?_)
  · refine X_aload_n dX12_expression_60 rfl ?_
    refine X_dup dX12_expression_61 (rv_cat _) ?_
    refine X_getfield (ci := 12) (k := 40) (v := vi (V1 x0 40)) dX12_expression_62 rfl (by decide) kf_RX12_266 rfl (hc2.1 c3).1 ?_
    refine X_iconst dX12_expression_65 (by decide) ?_
    refine X_iaddN dX12_expression_66 (hc2.1 c3).2.1 (hc2.1 c3).2.2.1 ?_
    refine X_putfield (ci := 12) (k := 40) (z := ((V1 x0 40) + 1)) dX12_expression_67 rfl (by decide) kf_RX12_266 (Or.inl rfl) (Or.inl rfl) rfl (fun hv => hv) (hc2.1 c3).1 ?_
    refine X_aload_n dX12_expression_70 rfl ?_
    refine X_getfield (ci := 12) (k := 40) (v := vi ((V1 x0 40) + 1)) dX12_expression_71 rfl (by decide) kf_RX12_266 (congrArg vi up_eq) (hc2.1 c3).1 ?_
    refine X_iconst dX12_expression_74 (by decide) ?_
    refine X_isubN dX12_expression_75 (hc2.1 c3).2.2.2.1 (hc2.1 c3).2.2.2.2.1 ?_
    exact X_ret (z := (((V1 x0 40) + 1) - 1)) dX12_expression_76 rfl (fun hv => vok_h hv) (hc2.1 c3).2.2.2.2.2
  · refine X_aload_n dX12_expression_50 rfl ?_
    refine X_getfield (ci := 12) (k := 38) (v := vr (V1 x0 38)) dX12_expression_51 rfl (by decide) kf_RX12_101 rfl (hc2.2 c3).1 ?_
    refine X_iload_n dX12_expression_54 rfl ?_
    refine X_aload_n dX12_expression_55 rfl ?_
    refine X_getfield (ci := 12) (k := 40) (v := vi (V1 x0 40)) dX12_expression_56 rfl (by decide) kf_RX12_266 rfl (hc2.2 c3).1 ?_
    refine X_iastore dX12_expression_59 (hc2.2 c3).2.1 (hc2.2 c3).2.2.1 (hc2.2 c3).2.2.2.1 ?_
    refine X_aload_n dX12_expression_60 rfl ?_
    refine X_dup dX12_expression_61 (rv_cat _) ?_
    refine X_getfield (ci := 12) (k := 40) (v := vi (V1 x0 40)) dX12_expression_62 rfl (by decide) kf_RX12_266 (congrArg vi (up_ne (Or.inl (tag_ne (hc2.2 c3).1 (hc2.2 c3).2.1 (by decide))))) (hc2.2 c3).1 ?_
    refine X_iconst dX12_expression_65 (by decide) ?_
    refine X_iaddN dX12_expression_66 (hc2.2 c3).2.2.2.2.1 (hc2.2 c3).2.2.2.2.2.1 ?_
    refine X_putfield (ci := 12) (k := 40) (z := ((V1 x0 40) + 1)) dX12_expression_67 rfl (by decide) kf_RX12_266 (Or.inl rfl) (Or.inl rfl) rfl (fun hv => hv) (hc2.2 c3).1 ?_
    refine X_aload_n dX12_expression_70 rfl ?_
    refine X_getfield (ci := 12) (k := 40) (v := vi ((V1 x0 40) + 1)) dX12_expression_71 rfl (by decide) kf_RX12_266 (congrArg vi up_eq) (hc2.2 c3).1 ?_
    refine X_iconst dX12_expression_74 (by decide) ?_
    refine X_isubN dX12_expression_75 (hc2.2 c3).2.2.2.2.2.2.1 (hc2.2 c3).2.2.2.2.2.2.2.1 ?_
    exact X_ret (z := (((V1 x0 40) + 1) - 1)) dX12_expression_76 rfl (fun hv => vok_h hv) (hc2.2 c3).2.2.2.2.2.2.2.2
theorem qX12_expression {l : Launch} {G : GT} {Q : Int → Sh → Mem → Prop} {d : Nat} {S : Sh} {V : Mem} {mc ms : Nat} {x0 x1 x2 x3 : Int} (h : 0 ≤ x0 → inI x1 → inI x2 → inI x3 → XJ l G bX12_expression Q d 0 [vr x0, vi x1, vi x2, vi x3] [] S V mc ms) : Ct l G bX12_expression Q d mc ms [vr x0, vi x1, vi x2, vi x3] S V := Ct.of okX12_expression.1 trivial (Nat.le_of_ble_eq_true rfl) (fun hv => h (hv _ (List.mem_of_getElem? (i := 0) rfl)) (hv _ (List.mem_of_getElem? (i := 1) rfl)) (hv _ (List.mem_of_getElem? (i := 2) rfl)) (hv _ (List.mem_of_getElem? (i := 3) rfl)))
set_option maxRecDepth 10000 in
theorem vX12_fault_0 {l : Launch} {G : GT} {Q : Int → Sh → Mem → Prop} {d : Nat} {S : Sh} {V : Mem} {mc ms : Nat} {x0 x1 : Int} (h : S.1 x0 = 13 ∧ ((V x0 46) ≠ 0 → Q (-1) S V) ∧ (¬ ((V x0 46) ≠ 0) → ((V x0 3) ≠ 1 → Q (-1) S (up (up V x0 46 x1) x0 47 (V x0 4))) ∧ (¬ ((V x0 3) ≠ 1) → Q (-1) S (up (up V x0 46 1) x0 47 (V x0 4))))) : XJ l G bX12_fault Q d 0 [vr x0, vi x1] [] S V mc ms := by
  refine X_aload_n dX12_fault_0 rfl ?_
  refine X_getfield (ci := 12) (k := 46) (v := vi (V x0 46)) dX12_fault_1 rfl (by decide) kf_RX12_275 rfl h.1 ?_
  refine X_if_ne dX12_fault_4 (tgt := 32) rfl (fun c1 => ?_) (fun c1 => ?_)
  · refine X_iconst dX12_fault_32 (by decide) ?_
    exact X_ret (z := (-1)) dX12_fault_33 rfl (fun hv => vok_h hv) (h.2.1 c1)
  · refine X_aload_n dX12_fault_7 rfl ?_
    refine X_aload_n dX12_fault_8 rfl ?_
    refine X_getfield (ci := 12) (k := 3) (v := vi (V x0 3)) dX12_fault_9 rfl (by decide) kf_RX12_205 rfl h.1 ?_
    refine X_iconst dX12_fault_12 (by decide) ?_
    refine X_icmp_ne dX12_fault_13 (tgt := 20) rfl (fun c2 => ?_) (fun c2 => ?_)
    · refine X_iload_n dX12_fault_20 rfl ?_
      refine X_putfield (ci := 12) (k := 46) (z := x1) dX12_fault_21 rfl (by decide) kf_RX12_275 (Or.inl rfl) (Or.inl rfl) rfl (fun hv => hv) h.1 ?_
      refine X_aload_n dX12_fault_24 rfl ?_
      refine X_aload_n dX12_fault_25 rfl ?_
      refine X_getfield (ci := 12) (k := 4) (v := vi (V x0 4)) dX12_fault_26 rfl (by decide) kf_RX12_198 (congrArg vi (up_ne (Or.inr (by decide)))) h.1 ?_
      refine X_putfield (ci := 12) (k := 47) (z := (V x0 4)) dX12_fault_29 rfl (by decide) kf_RX12_278 (Or.inl rfl) (Or.inl rfl) rfl (fun hv => hv) h.1 ?_
      refine X_iconst dX12_fault_32 (by decide) ?_
      exact X_ret (z := (-1)) dX12_fault_33 rfl (fun hv => vok_h hv) ((h.2.2 c1).1 c2)
    · refine X_iconst dX12_fault_16 (by decide) ?_
      refine X_goto dX12_fault_17 (tgt := 21) rfl ?_
      refine X_putfield (ci := 12) (k := 46) (z := 1) dX12_fault_21 rfl (by decide) kf_RX12_275 (Or.inl rfl) (Or.inl rfl) rfl (fun hv => hv) h.1 ?_
      refine X_aload_n dX12_fault_24 rfl ?_
      refine X_aload_n dX12_fault_25 rfl ?_
      refine X_getfield (ci := 12) (k := 4) (v := vi (V x0 4)) dX12_fault_26 rfl (by decide) kf_RX12_198 (congrArg vi (up_ne (Or.inr (by decide)))) h.1 ?_
      refine X_putfield (ci := 12) (k := 47) (z := (V x0 4)) dX12_fault_29 rfl (by decide) kf_RX12_278 (Or.inl rfl) (Or.inl rfl) rfl (fun hv => hv) h.1 ?_
      refine X_iconst dX12_fault_32 (by decide) ?_
      exact X_ret (z := (-1)) dX12_fault_33 rfl (fun hv => vok_h hv) ((h.2.2 c1).2 c2)
theorem qX12_fault {l : Launch} {G : GT} {Q : Int → Sh → Mem → Prop} {d : Nat} {S : Sh} {V : Mem} {mc ms : Nat} {x0 x1 : Int} (h : 0 ≤ x0 → inI x1 → XJ l G bX12_fault Q d 0 [vr x0, vi x1] [] S V mc ms) : Ct l G bX12_fault Q d mc ms [vr x0, vi x1] S V := Ct.of okX12_fault.1 trivial (Nat.le_of_ble_eq_true rfl) (fun hv => h (hv _ (List.mem_of_getElem? (i := 0) rfl)) (hv _ (List.mem_of_getElem? (i := 1) rfl)))
set_option maxRecDepth 10000 in
theorem vX12_sign_0 {l : Launch} {G : GT} {Q : Int → Sh → Mem → Prop} {d : Nat} {S : Sh} {V : Mem} {mc ms : Nat} {x0 x1 : Int} (h : S.1 x0 = 13 ∧ ((V x0 46) ≤ 0 → CT l G bX12_isSign d mc ms [vr x0, vi x1] S V (fun z2 S2 V2 mc2 ms2 => (z2 = 0 → S2.1 x0 = 13 ∧ CT l G bX12_fault d mc2 ms2 [vr x0, vi 2] S2 V2 (fun z5 S5 V5 mc5 ms5 => Q 0 S5 V5)) ∧ (¬ (z2 = 0) → S2.1 x0 = 13 ∧ CT l G bX12_next d mc2 ms2 [vr x0] S2 V2 (fun z7 S7 V7 mc7 ms7 => Q 0 S7 V7)))) ∧ (¬ ((V x0 46) ≤ 0) → Q 0 S V)) : XJ l G bX12_sign Q d 0 [vr x0, vi x1, vu] [] S V mc ms := by
  refine X_aload_n dX12_sign_0 rfl ?_
  refine X_getfield (ci := 12) (k := 46) (v := vi (V x0 46)) dX12_sign_1 rfl (by decide) kf_RX12_275 rfl h.1 ?_
  refine X_if_le dX12_sign_4 (tgt := 8) rfl (fun c1 => ?_) (fun c1 => ?_)
  · refine X_aload_n dX12_sign_8 rfl ?_
    refine X_iload_n dX12_sign_9 rfl ?_
    refine X_invV (ci := 12) (as := [vi x1]) (st := []) okX12_isSign dX12_sign_10 km_RX12_281 rfl rfl (Nat.le_of_ble_eq_true rfl) rfl rfl h.1 (CT.imp (h.2.1 c1) (fun z2 S2 V2 mc2 ms2 hc3 => ?_))
    refine X_if_eq dX12_sign_13 (tgt := 23) rfl (fun c4 => ?_) (fun c4 => ?_)
    · refine X_aload_n dX12_sign_23 rfl ?_
      refine X_iconst dX12_sign_24 (by decide) ?_
      refine X_invV (ci := 12) (as := [vi 2]) (st := []) okX12_fault dX12_sign_25 km_RX12_288 rfl rfl (Nat.le_of_ble_eq_true rfl) rfl rfl (hc3.1 c4).1 (CT.imp (hc3.1 c4).2 (fun z5 S5 V5 mc5 ms5 hc6 => ?_))
      refine X_istore_n dX12_sign_28 (by decide) rfl ?_
      exact X_ret (z := 0) dX12_sign_29 rfl (fun _ => trivial) hc6
    · refine X_aload_n dX12_sign_16 rfl ?_
      refine X_invV (ci := 12) (as := []) (st := []) okX12_next dX12_sign_17 km_RX12_285 rfl rfl (Nat.le_of_ble_eq_true rfl) rfl rfl (hc3.2 c4).1 (CT.imp (hc3.2 c4).2 (fun z7 S7 V7 mc7 ms7 hc8 => ?_))
      refine X_goto dX12_sign_20 (tgt := 29) rfl ?_
      exact X_ret (z := 0) dX12_sign_29 rfl (fun _ => trivial) hc8
  · exact X_ret (z := 0) dX12_sign_7 rfl (fun _ => trivial) (h.2.2 c1)
theorem qX12_sign {l : Launch} {G : GT} {Q : Int → Sh → Mem → Prop} {d : Nat} {S : Sh} {V : Mem} {mc ms : Nat} {x0 x1 : Int} (h : 0 ≤ x0 → inI x1 → XJ l G bX12_sign Q d 0 [vr x0, vi x1, vu] [] S V mc ms) : Ct l G bX12_sign Q d mc ms [vr x0, vi x1] S V := Ct.of okX12_sign.1 trivial (Nat.le_of_ble_eq_true rfl) (fun hv => h (hv _ (List.mem_of_getElem? (i := 0) rfl)) (hv _ (List.mem_of_getElem? (i := 1) rfl)))
set_option maxRecDepth 10000 in
theorem vX12_newName_0 {l : Launch} {G : GT} {Q : Int → Sh → Mem → Prop} {d : Nat} {S : Sh} {V : Mem} {mc ms : Nat} {x0 x1 : Int} (h : S.1 x0 = 13 ∧ ((V x0 46) ≤ 0 → CT l G bX12_isName d mc ms [vr x0] S V (fun z2 S2 V2 mc2 ms2 => (z2 ≠ 0 → (x1 = 0 → S2.1 x0 = 13 ∧ CT l G bX12_nameHere d mc2 ms2 [vr x0] S2 V2 (fun z6 S6 V6 mc6 ms6 => Q z6 S6 V6)) ∧ (¬ (x1 = 0) → S2.1 x0 = 13 ∧ CT l G bX12_fault d mc2 ms2 [vr x0, vi 3] S2 V2 (fun z8 S8 V8 mc8 ms8 => Q z8 S8 V8))) ∧ (¬ (z2 ≠ 0) → S2.1 x0 = 13 ∧ CT l G bX12_fault d mc2 ms2 [vr x0, vi 2] S2 V2 (fun z10 S10 V10 mc10 ms10 => Q z10 S10 V10)))) ∧ (¬ ((V x0 46) ≤ 0) → Q (-1) S V)) : XJ l G bX12_newName Q d 0 [vr x0, vi x1] [] S V mc ms := by
  refine X_aload_n dX12_newName_0 rfl ?_
  refine X_getfield (ci := 12) (k := 46) (v := vi (V x0 46)) dX12_newName_1 rfl (by decide) kf_RX12_275 rfl h.1 ?_
  refine X_if_le dX12_newName_4 (tgt := 9) rfl (fun c1 => ?_) (fun c1 => ?_)
  · refine X_aload_n dX12_newName_9 rfl ?_
    refine X_invV (ci := 12) (as := []) (st := []) okX12_isName dX12_newName_10 km_RX12_291 rfl rfl (Nat.le_of_ble_eq_true rfl) rfl rfl h.1 (CT.imp (h.2.1 c1) (fun z2 S2 V2 mc2 ms2 hc3 => ?_))
    refine X_if_ne dX12_newName_13 (tgt := 22) rfl (fun c4 => ?_) (fun c4 => ?_)
    · refine X_iload_n dX12_newName_22 rfl ?_
      refine X_if_eq dX12_newName_23 (tgt := 32) rfl (fun c5 => ?_) (fun c5 => ?_)
      · refine X_aload_n dX12_newName_32 rfl ?_
        refine X_invV (ci := 12) (as := []) (st := []) okX12_nameHere dX12_newName_33 km_RX12_294 rfl rfl (Nat.le_of_ble_eq_true rfl) rfl rfl ((hc3.1 c4).1 c5).1 (CT.imp ((hc3.1 c4).1 c5).2 (fun z6 S6 V6 mc6 ms6 hc7 => ?_))
        exact X_ret (z := z6) dX12_newName_36 rfl (fun hv => vok_h hv) hc7
      · refine X_aload_n dX12_newName_26 rfl ?_
        refine X_iconst dX12_newName_27 (by decide) ?_
        refine X_invV (ci := 12) (as := [vi 3]) (st := []) okX12_fault dX12_newName_28 km_RX12_288 rfl rfl (Nat.le_of_ble_eq_true rfl) rfl rfl ((hc3.1 c4).2 c5).1 (CT.imp ((hc3.1 c4).2 c5).2 (fun z8 S8 V8 mc8 ms8 hc9 => ?_))
        exact X_ret (z := z8) dX12_newName_31 rfl (fun hv => vok_h hv) hc9
    · refine X_aload_n dX12_newName_16 rfl ?_
      refine X_iconst dX12_newName_17 (by decide) ?_
      refine X_invV (ci := 12) (as := [vi 2]) (st := []) okX12_fault dX12_newName_18 km_RX12_288 rfl rfl (Nat.le_of_ble_eq_true rfl) rfl rfl (hc3.2 c4).1 (CT.imp (hc3.2 c4).2 (fun z10 S10 V10 mc10 ms10 hc11 => ?_))
      exact X_ret (z := z10) dX12_newName_21 rfl (fun hv => vok_h hv) hc11
  · refine X_iconst dX12_newName_7 (by decide) ?_
    exact X_ret (z := (-1)) dX12_newName_8 rfl (fun hv => vok_h hv) (h.2.2 c1)
theorem qX12_newName {l : Launch} {G : GT} {Q : Int → Sh → Mem → Prop} {d : Nat} {S : Sh} {V : Mem} {mc ms : Nat} {x0 x1 : Int} (h : 0 ≤ x0 → inI x1 → XJ l G bX12_newName Q d 0 [vr x0, vi x1] [] S V mc ms) : Ct l G bX12_newName Q d mc ms [vr x0, vi x1] S V := Ct.of okX12_newName.1 trivial (Nat.le_of_ble_eq_true rfl) (fun hv => h (hv _ (List.mem_of_getElem? (i := 0) rfl)) (hv _ (List.mem_of_getElem? (i := 1) rfl)))
set_option maxRecDepth 10000 in
theorem vX12_tells_0 {l : Launch} {G : GT} {Q : Int → Sh → Mem → Prop} {d : Nat} {S : Sh} {V : Mem} {mc ms : Nat} {x0 : Int} (h : S.1 x0 = 13 ∧ ((V x0 3) = 2 → CT l G bX12_nameHere d mc ms [vr x0] S V (fun z2 S2 V2 mc2 ms2 => XJ l G bX12_tells Q d 19 [vr x0, vi z2, vi 0, vi 0] [] S2 V2 mc2 ms2)) ∧ (¬ ((V x0 3) = 2) → Q 0 S V)) : XJ l G bX12_tells Q d 0 [vr x0, vu, vu, vu] [] S V mc ms := by
  refine X_aload_n dX12_tells_0 rfl ?_
  refine X_getfield (ci := 12) (k := 3) (v := vi (V x0 3)) dX12_tells_1 rfl (by decide) kf_RX12_205 rfl h.1 ?_
  refine X_iconst dX12_tells_4 (by decide) ?_
  refine X_icmp_eq dX12_tells_5 (tgt := 10) rfl (fun c1 => ?_) (fun c1 => ?_)
  · refine X_aload_n dX12_tells_10 rfl ?_
    refine X_invV (ci := 12) (as := []) (st := []) okX12_nameHere dX12_tells_11 km_RX12_294 rfl rfl (Nat.le_of_ble_eq_true rfl) rfl rfl h.1 (CT.imp (h.2.1 c1) (fun z2 S2 V2 mc2 ms2 hc3 => ?_))
    refine X_istore_n dX12_tells_14 (by decide) rfl ?_
    refine X_iconst dX12_tells_15 (by decide) ?_
    refine X_istore_n dX12_tells_16 (by decide) rfl ?_
    refine X_iconst dX12_tells_17 (by decide) ?_
    refine X_istore_n dX12_tells_18 (by decide) rfl ?_
    exact hc3
  · refine X_iconst dX12_tells_8 (by decide) ?_
    exact X_ret (z := 0) dX12_tells_9 rfl (fun _ => Or.inl rfl) (h.2.2 c1)
set_option maxRecDepth 10000 in
theorem vX12_tells_19 {l : Launch} {G : GT} {Q : Int → Sh → Mem → Prop} {d : Nat} {S : Sh} {V : Mem} {mc ms : Nat} {x0 x1 x2 x3 : Int} (h : S.1 x0 = 13 ∧ S.1 (V x0 14) = 20 ∧ 0 ≤ (V x0 41) ∧ (V x0 41) < S.2.1 (V x0 14) ∧ ((V (V x0 14) (V x0 41)) ≤ x3 → XJ l G bX12_tells Q d 72 [vr x0, vi x1, vi x2, vi 0] [] S V mc ms) ∧ (¬ ((V (V x0 14) (V x0 41)) ≤ x3) → (x2 ≠ 0 → -2147483648 ≤ x3 + 1 ∧ x3 + 1 ≤ 2147483647 ∧ XJ l G bX12_tells Q d 19 [vr x0, vi x1, vi 1, vi (x3 + 1)] [] S V mc ms) ∧ (¬ (x2 ≠ 0) → -2147483648 ≤ 24 * (V x0 41) ∧ 24 * (V x0 41) ≤ 2147483647 ∧ -2147483648 ≤ (24 * (V x0 41)) + x3 ∧ (24 * (V x0 41)) + x3 ≤ 2147483647 ∧ S.1 (V x0 20) = 20 ∧ 0 ≤ ((24 * (V x0 41)) + x3) ∧ ((24 * (V x0 41)) + x3) < S.2.1 (V x0 20) ∧ CT l G bX12_isSame d mc ms [vr x0, vi x1, vi (V (V x0 20) ((24 * (V x0 41)) + x3))] S V (fun z3 S3 V3 mc3 ms3 => (z3 = 0 → -2147483648 ≤ x3 + 1 ∧ x3 + 1 ≤ 2147483647 ∧ XJ l G bX12_tells Q d 19 [vr x0, vi x1, vi 0, vi (x3 + 1)] [] S3 V3 mc3 ms3) ∧ (¬ (z3 = 0) → -2147483648 ≤ x3 + 1 ∧ x3 + 1 ≤ 2147483647 ∧ XJ l G bX12_tells Q d 19 [vr x0, vi x1, vi 1, vi (x3 + 1)] [] S3 V3 mc3 ms3))))) : XJ l G bX12_tells Q d 19 [vr x0, vi x1, vi x2, vi x3] [] S V mc ms := by
  refine X_iload_n dX12_tells_19 rfl ?_
  refine X_aload_n dX12_tells_20 rfl ?_
  refine X_getfield (ci := 12) (k := 14) (v := vr (V x0 14)) dX12_tells_21 rfl (by decide) kf_RX12_29 rfl h.1 ?_
  refine X_aload_n dX12_tells_24 rfl ?_
  refine X_getfield (ci := 12) (k := 41) (v := vi (V x0 41)) dX12_tells_25 rfl (by decide) kf_RX12_269 rfl h.1 ?_
  refine X_iaload dX12_tells_28 h.2.1 h.2.2.1 h.2.2.2.1 ?_
  refine X_icmp_ge dX12_tells_29 (tgt := 70) rfl (fun c1 => ?_) (fun c1 => ?_)
  · refine X_iconst dX12_tells_70 (by decide) ?_
    refine X_istore_n dX12_tells_71 (by decide) rfl ?_
    exact (h.2.2.2.2.1 c1)
  · refine X_iload_n dX12_tells_32 rfl ?_
    refine X_if_ne dX12_tells_33 (tgt := 58) rfl (fun c2 => ?_) (fun c2 => ?_)
    · refine X_iconst dX12_tells_58 (by decide) ?_
      refine X_goto dX12_tells_59 (tgt := 63) rfl ?_
      refine X_istore_n dX12_tells_63 (by decide) rfl ?_
      refine X_iincN dX12_tells_64 rfl (by decide) rfl (e := x3 + 1) rfl ((h.2.2.2.2.2 c1).1 c2).1 ((h.2.2.2.2.2 c1).1 c2).2.1 ?_
      refine X_goto dX12_tells_67 (tgt := 19) rfl ?_
      exact ((h.2.2.2.2.2 c1).1 c2).2.2
    · refine X_aload_n dX12_tells_36 rfl ?_
      refine X_iload_n dX12_tells_37 rfl ?_
      refine X_aload_n dX12_tells_38 rfl ?_
      refine X_getfield (ci := 12) (k := 20) (v := vr (V x0 20)) dX12_tells_39 rfl (by decide) kf_RX12_47 rfl h.1 ?_
      refine X_bipush dX12_tells_42 (by decide) (by decide) ?_
      refine X_aload_n dX12_tells_44 rfl ?_
      refine X_getfield (ci := 12) (k := 41) (v := vi (V x0 41)) dX12_tells_45 rfl (by decide) kf_RX12_269 rfl h.1 ?_
      refine X_imulN dX12_tells_48 ((h.2.2.2.2.2 c1).2 c2).1 ((h.2.2.2.2.2 c1).2 c2).2.1 ?_
      refine X_iload_n dX12_tells_49 rfl ?_
      refine X_iaddN dX12_tells_50 ((h.2.2.2.2.2 c1).2 c2).2.2.1 ((h.2.2.2.2.2 c1).2 c2).2.2.2.1 ?_
      refine X_iaload dX12_tells_51 ((h.2.2.2.2.2 c1).2 c2).2.2.2.2.1 ((h.2.2.2.2.2 c1).2 c2).2.2.2.2.2.1 ((h.2.2.2.2.2 c1).2 c2).2.2.2.2.2.2.1 ?_
      refine X_invV (ci := 12) (as := [vi x1, vi (V (V x0 20) ((24 * (V x0 41)) + x3))]) (st := []) okX12_isSame dX12_tells_52 km_RX12_297 rfl rfl (Nat.le_of_ble_eq_true rfl) rfl rfl h.1 (CT.imp ((h.2.2.2.2.2 c1).2 c2).2.2.2.2.2.2.2 (fun z3 S3 V3 mc3 ms3 hc4 => ?_))
      refine X_if_eq dX12_tells_55 (tgt := 62) rfl (fun c5 => ?_) (fun c5 => ?_)
      · refine X_iconst dX12_tells_62 (by decide) ?_
        refine X_istore_n dX12_tells_63 (by decide) rfl ?_
        refine X_iincN dX12_tells_64 rfl (by decide) rfl (e := x3 + 1) rfl (hc4.1 c5).1 (hc4.1 c5).2.1 ?_
        refine X_goto dX12_tells_67 (tgt := 19) rfl ?_
        exact (hc4.1 c5).2.2
      · refine X_iconst dX12_tells_58 (by decide) ?_
        refine X_goto dX12_tells_59 (tgt := 63) rfl ?_
        refine X_istore_n dX12_tells_63 (by decide) rfl ?_
        refine X_iincN dX12_tells_64 rfl (by decide) rfl (e := x3 + 1) rfl (hc4.2 c5).1 (hc4.2 c5).2.1 ?_
        refine X_goto dX12_tells_67 (tgt := 19) rfl ?_
        exact (hc4.2 c5).2.2
set_option maxRecDepth 10000 in
theorem vX12_tells_72 {l : Launch} {G : GT} {Q : Int → Sh → Mem → Prop} {d : Nat} {S : Sh} {V : Mem} {mc ms : Nat} {x0 x1 x2 x3 : Int} (h : S.1 x0 = 13 ∧ S.1 (V x0 15) = 20 ∧ 0 ≤ (V x0 41) ∧ (V x0 41) < S.2.1 (V x0 15) ∧ ((V (V x0 15) (V x0 41)) ≤ x3 → XJ l G bX12_tells Q d 124 [vr x0, vi x1, vi x2, vi 0] [] S V mc ms) ∧ (¬ ((V (V x0 15) (V x0 41)) ≤ x3) → (x2 ≠ 0 → -2147483648 ≤ x3 + 1 ∧ x3 + 1 ≤ 2147483647 ∧ XJ l G bX12_tells Q d 72 [vr x0, vi x1, vi 1, vi (x3 + 1)] [] S V mc ms) ∧ (¬ (x2 ≠ 0) → -2147483648 ≤ 4 * (V x0 41) ∧ 4 * (V x0 41) ≤ 2147483647 ∧ -2147483648 ≤ (4 * (V x0 41)) + x3 ∧ (4 * (V x0 41)) + x3 ≤ 2147483647 ∧ S.1 (V x0 23) = 20 ∧ 0 ≤ ((4 * (V x0 41)) + x3) ∧ ((4 * (V x0 41)) + x3) < S.2.1 (V x0 23) ∧ CT l G bX12_isSame d mc ms [vr x0, vi x1, vi (V (V x0 23) ((4 * (V x0 41)) + x3))] S V (fun z3 S3 V3 mc3 ms3 => (z3 = 0 → -2147483648 ≤ x3 + 1 ∧ x3 + 1 ≤ 2147483647 ∧ XJ l G bX12_tells Q d 72 [vr x0, vi x1, vi 0, vi (x3 + 1)] [] S3 V3 mc3 ms3) ∧ (¬ (z3 = 0) → -2147483648 ≤ x3 + 1 ∧ x3 + 1 ≤ 2147483647 ∧ XJ l G bX12_tells Q d 72 [vr x0, vi x1, vi 1, vi (x3 + 1)] [] S3 V3 mc3 ms3))))) : XJ l G bX12_tells Q d 72 [vr x0, vi x1, vi x2, vi x3] [] S V mc ms := by
  refine X_iload_n dX12_tells_72 rfl ?_
  refine X_aload_n dX12_tells_73 rfl ?_
  refine X_getfield (ci := 12) (k := 15) (v := vr (V x0 15)) dX12_tells_74 rfl (by decide) kf_RX12_32 rfl h.1 ?_
  refine X_aload_n dX12_tells_77 rfl ?_
  refine X_getfield (ci := 12) (k := 41) (v := vi (V x0 41)) dX12_tells_78 rfl (by decide) kf_RX12_269 rfl h.1 ?_
  refine X_iaload dX12_tells_81 h.2.1 h.2.2.1 h.2.2.2.1 ?_
  refine X_icmp_ge dX12_tells_82 (tgt := 122) rfl (fun c1 => ?_) (fun c1 => ?_)
  · refine X_iconst dX12_tells_122 (by decide) ?_
    refine X_istore_n dX12_tells_123 (by decide) rfl ?_
    exact (h.2.2.2.2.1 c1)
  · refine X_iload_n dX12_tells_85 rfl ?_
    refine X_if_ne dX12_tells_86 (tgt := 110) rfl (fun c2 => ?_) (fun c2 => ?_)
    · refine X_iconst dX12_tells_110 (by decide) ?_
      refine X_goto dX12_tells_111 (tgt := 115) rfl ?_
      refine X_istore_n dX12_tells_115 (by decide) rfl ?_
      refine X_iincN dX12_tells_116 rfl (by decide) rfl (e := x3 + 1) rfl ((h.2.2.2.2.2 c1).1 c2).1 ((h.2.2.2.2.2 c1).1 c2).2.1 ?_
      refine X_goto dX12_tells_119 (tgt := 72) rfl ?_
      exact ((h.2.2.2.2.2 c1).1 c2).2.2
    · refine X_aload_n dX12_tells_89 rfl ?_
      refine X_iload_n dX12_tells_90 rfl ?_
      refine X_aload_n dX12_tells_91 rfl ?_
      refine X_getfield (ci := 12) (k := 23) (v := vr (V x0 23)) dX12_tells_92 rfl (by decide) kf_RX12_56 rfl h.1 ?_
      refine X_iconst dX12_tells_95 (by decide) ?_
      refine X_aload_n dX12_tells_96 rfl ?_
      refine X_getfield (ci := 12) (k := 41) (v := vi (V x0 41)) dX12_tells_97 rfl (by decide) kf_RX12_269 rfl h.1 ?_
      refine X_imulN dX12_tells_100 ((h.2.2.2.2.2 c1).2 c2).1 ((h.2.2.2.2.2 c1).2 c2).2.1 ?_
      refine X_iload_n dX12_tells_101 rfl ?_
      refine X_iaddN dX12_tells_102 ((h.2.2.2.2.2 c1).2 c2).2.2.1 ((h.2.2.2.2.2 c1).2 c2).2.2.2.1 ?_
      refine X_iaload dX12_tells_103 ((h.2.2.2.2.2 c1).2 c2).2.2.2.2.1 ((h.2.2.2.2.2 c1).2 c2).2.2.2.2.2.1 ((h.2.2.2.2.2 c1).2 c2).2.2.2.2.2.2.1 ?_
      refine X_invV (ci := 12) (as := [vi x1, vi (V (V x0 23) ((4 * (V x0 41)) + x3))]) (st := []) okX12_isSame dX12_tells_104 km_RX12_297 rfl rfl (Nat.le_of_ble_eq_true rfl) rfl rfl h.1 (CT.imp ((h.2.2.2.2.2 c1).2 c2).2.2.2.2.2.2.2 (fun z3 S3 V3 mc3 ms3 hc4 => ?_))
      refine X_if_eq dX12_tells_107 (tgt := 114) rfl (fun c5 => ?_) (fun c5 => ?_)
      · refine X_iconst dX12_tells_114 (by decide) ?_
        refine X_istore_n dX12_tells_115 (by decide) rfl ?_
        refine X_iincN dX12_tells_116 rfl (by decide) rfl (e := x3 + 1) rfl (hc4.1 c5).1 (hc4.1 c5).2.1 ?_
        refine X_goto dX12_tells_119 (tgt := 72) rfl ?_
        exact (hc4.1 c5).2.2
      · refine X_iconst dX12_tells_110 (by decide) ?_
        refine X_goto dX12_tells_111 (tgt := 115) rfl ?_
        refine X_istore_n dX12_tells_115 (by decide) rfl ?_
        refine X_iincN dX12_tells_116 rfl (by decide) rfl (e := x3 + 1) rfl (hc4.2 c5).1 (hc4.2 c5).2.1 ?_
        refine X_goto dX12_tells_119 (tgt := 72) rfl ?_
        exact (hc4.2 c5).2.2
set_option maxRecDepth 10000 in
theorem vX12_tells_124 {l : Launch} {G : GT} {Q : Int → Sh → Mem → Prop} {d : Nat} {S : Sh} {V : Mem} {mc ms : Nat} {x0 x1 x2 x3 : Int} (h : S.1 x0 = 13 ∧ S.1 (V x0 17) = 20 ∧ 0 ≤ (V x0 41) ∧ (V x0 41) < S.2.1 (V x0 17) ∧ ((V (V x0 17) (V x0 41)) ≤ x3 → XJ l G bX12_tells Q d 176 [vr x0, vi x1, vi x2, vi 0] [] S V mc ms) ∧ (¬ ((V (V x0 17) (V x0 41)) ≤ x3) → (x2 ≠ 0 → -2147483648 ≤ x3 + 1 ∧ x3 + 1 ≤ 2147483647 ∧ XJ l G bX12_tells Q d 124 [vr x0, vi x1, vi 1, vi (x3 + 1)] [] S V mc ms) ∧ (¬ (x2 ≠ 0) → -2147483648 ≤ 4 * (V x0 41) ∧ 4 * (V x0 41) ≤ 2147483647 ∧ -2147483648 ≤ (4 * (V x0 41)) + x3 ∧ (4 * (V x0 41)) + x3 ≤ 2147483647 ∧ S.1 (V x0 27) = 20 ∧ 0 ≤ ((4 * (V x0 41)) + x3) ∧ ((4 * (V x0 41)) + x3) < S.2.1 (V x0 27) ∧ CT l G bX12_isSame d mc ms [vr x0, vi x1, vi (V (V x0 27) ((4 * (V x0 41)) + x3))] S V (fun z3 S3 V3 mc3 ms3 => (z3 = 0 → -2147483648 ≤ x3 + 1 ∧ x3 + 1 ≤ 2147483647 ∧ XJ l G bX12_tells Q d 124 [vr x0, vi x1, vi 0, vi (x3 + 1)] [] S3 V3 mc3 ms3) ∧ (¬ (z3 = 0) → -2147483648 ≤ x3 + 1 ∧ x3 + 1 ≤ 2147483647 ∧ XJ l G bX12_tells Q d 124 [vr x0, vi x1, vi 1, vi (x3 + 1)] [] S3 V3 mc3 ms3))))) : XJ l G bX12_tells Q d 124 [vr x0, vi x1, vi x2, vi x3] [] S V mc ms := by
  refine X_iload_n dX12_tells_124 rfl ?_
  refine X_aload_n dX12_tells_125 rfl ?_
  refine X_getfield (ci := 12) (k := 17) (v := vr (V x0 17)) dX12_tells_126 rfl (by decide) kf_RX12_38 rfl h.1 ?_
  refine X_aload_n dX12_tells_129 rfl ?_
  refine X_getfield (ci := 12) (k := 41) (v := vi (V x0 41)) dX12_tells_130 rfl (by decide) kf_RX12_269 rfl h.1 ?_
  refine X_iaload dX12_tells_133 h.2.1 h.2.2.1 h.2.2.2.1 ?_
  refine X_icmp_ge dX12_tells_134 (tgt := 174) rfl (fun c1 => ?_) (fun c1 => ?_)
  · refine X_iconst dX12_tells_174 (by decide) ?_
    refine X_istore_n dX12_tells_175 (by decide) rfl ?_
    exact (h.2.2.2.2.1 c1)
  · refine X_iload_n dX12_tells_137 rfl ?_
    refine X_if_ne dX12_tells_138 (tgt := 162) rfl (fun c2 => ?_) (fun c2 => ?_)
    · refine X_iconst dX12_tells_162 (by decide) ?_
      refine X_goto dX12_tells_163 (tgt := 167) rfl ?_
      refine X_istore_n dX12_tells_167 (by decide) rfl ?_
      refine X_iincN dX12_tells_168 rfl (by decide) rfl (e := x3 + 1) rfl ((h.2.2.2.2.2 c1).1 c2).1 ((h.2.2.2.2.2 c1).1 c2).2.1 ?_
      refine X_goto dX12_tells_171 (tgt := 124) rfl ?_
      exact ((h.2.2.2.2.2 c1).1 c2).2.2
    · refine X_aload_n dX12_tells_141 rfl ?_
      refine X_iload_n dX12_tells_142 rfl ?_
      refine X_aload_n dX12_tells_143 rfl ?_
      refine X_getfield (ci := 12) (k := 27) (v := vr (V x0 27)) dX12_tells_144 rfl (by decide) kf_RX12_68 rfl h.1 ?_
      refine X_iconst dX12_tells_147 (by decide) ?_
      refine X_aload_n dX12_tells_148 rfl ?_
      refine X_getfield (ci := 12) (k := 41) (v := vi (V x0 41)) dX12_tells_149 rfl (by decide) kf_RX12_269 rfl h.1 ?_
      refine X_imulN dX12_tells_152 ((h.2.2.2.2.2 c1).2 c2).1 ((h.2.2.2.2.2 c1).2 c2).2.1 ?_
      refine X_iload_n dX12_tells_153 rfl ?_
      refine X_iaddN dX12_tells_154 ((h.2.2.2.2.2 c1).2 c2).2.2.1 ((h.2.2.2.2.2 c1).2 c2).2.2.2.1 ?_
      refine X_iaload dX12_tells_155 ((h.2.2.2.2.2 c1).2 c2).2.2.2.2.1 ((h.2.2.2.2.2 c1).2 c2).2.2.2.2.2.1 ((h.2.2.2.2.2 c1).2 c2).2.2.2.2.2.2.1 ?_
      refine X_invV (ci := 12) (as := [vi x1, vi (V (V x0 27) ((4 * (V x0 41)) + x3))]) (st := []) okX12_isSame dX12_tells_156 km_RX12_297 rfl rfl (Nat.le_of_ble_eq_true rfl) rfl rfl h.1 (CT.imp ((h.2.2.2.2.2 c1).2 c2).2.2.2.2.2.2.2 (fun z3 S3 V3 mc3 ms3 hc4 => ?_))
      refine X_if_eq dX12_tells_159 (tgt := 166) rfl (fun c5 => ?_) (fun c5 => ?_)
      · refine X_iconst dX12_tells_166 (by decide) ?_
        refine X_istore_n dX12_tells_167 (by decide) rfl ?_
        refine X_iincN dX12_tells_168 rfl (by decide) rfl (e := x3 + 1) rfl (hc4.1 c5).1 (hc4.1 c5).2.1 ?_
        refine X_goto dX12_tells_171 (tgt := 124) rfl ?_
        exact (hc4.1 c5).2.2
      · refine X_iconst dX12_tells_162 (by decide) ?_
        refine X_goto dX12_tells_163 (tgt := 167) rfl ?_
        refine X_istore_n dX12_tells_167 (by decide) rfl ?_
        refine X_iincN dX12_tells_168 rfl (by decide) rfl (e := x3 + 1) rfl (hc4.2 c5).1 (hc4.2 c5).2.1 ?_
        refine X_goto dX12_tells_171 (tgt := 124) rfl ?_
        exact (hc4.2 c5).2.2
set_option maxRecDepth 10000 in
theorem vX12_tells_176 {l : Launch} {G : GT} {Q : Int → Sh → Mem → Prop} {d : Nat} {S : Sh} {V : Mem} {mc ms : Nat} {x0 x1 x2 x3 : Int} (h : S.1 x0 = 13 ∧ S.1 (V x0 18) = 20 ∧ 0 ≤ (V x0 41) ∧ (V x0 41) < S.2.1 (V x0 18) ∧ ((V (V x0 18) (V x0 41)) ≤ x3 → (x2 = 0 ∨ x2 = 1) ∧ Q x2 S V) ∧ (¬ ((V (V x0 18) (V x0 41)) ≤ x3) → (x2 ≠ 0 → -2147483648 ≤ x3 + 1 ∧ x3 + 1 ≤ 2147483647 ∧ XJ l G bX12_tells Q d 176 [vr x0, vi x1, vi 1, vi (x3 + 1)] [] S V mc ms) ∧ (¬ (x2 ≠ 0) → -2147483648 ≤ 3 * (V x0 41) ∧ 3 * (V x0 41) ≤ 2147483647 ∧ -2147483648 ≤ (3 * (V x0 41)) + x3 ∧ (3 * (V x0 41)) + x3 ≤ 2147483647 ∧ S.1 (V x0 29) = 20 ∧ 0 ≤ ((3 * (V x0 41)) + x3) ∧ ((3 * (V x0 41)) + x3) < S.2.1 (V x0 29) ∧ CT l G bX12_isSame d mc ms [vr x0, vi x1, vi (V (V x0 29) ((3 * (V x0 41)) + x3))] S V (fun z3 S3 V3 mc3 ms3 => (z3 = 0 → -2147483648 ≤ x3 + 1 ∧ x3 + 1 ≤ 2147483647 ∧ XJ l G bX12_tells Q d 176 [vr x0, vi x1, vi 0, vi (x3 + 1)] [] S3 V3 mc3 ms3) ∧ (¬ (z3 = 0) → -2147483648 ≤ x3 + 1 ∧ x3 + 1 ≤ 2147483647 ∧ XJ l G bX12_tells Q d 176 [vr x0, vi x1, vi 1, vi (x3 + 1)] [] S3 V3 mc3 ms3))))) : XJ l G bX12_tells Q d 176 [vr x0, vi x1, vi x2, vi x3] [] S V mc ms := by
  refine X_iload_n dX12_tells_176 rfl ?_
  refine X_aload_n dX12_tells_177 rfl ?_
  refine X_getfield (ci := 12) (k := 18) (v := vr (V x0 18)) dX12_tells_178 rfl (by decide) kf_RX12_41 rfl h.1 ?_
  refine X_aload_n dX12_tells_181 rfl ?_
  refine X_getfield (ci := 12) (k := 41) (v := vi (V x0 41)) dX12_tells_182 rfl (by decide) kf_RX12_269 rfl h.1 ?_
  refine X_iaload dX12_tells_185 h.2.1 h.2.2.1 h.2.2.2.1 ?_
  refine X_icmp_ge dX12_tells_186 (tgt := 226) rfl (fun c1 => ?_) (fun c1 => ?_)
  · refine X_iload_n dX12_tells_226 rfl ?_
    exact X_ret (z := x2) dX12_tells_227 rfl (fun _ => (h.2.2.2.2.1 c1).1) (h.2.2.2.2.1 c1).2
  · refine X_iload_n dX12_tells_189 rfl ?_
    refine X_if_ne dX12_tells_190 (tgt := 214) rfl (fun c2 => ?_) (fun c2 => ?_)
    · refine X_iconst dX12_tells_214 (by decide) ?_
      refine X_goto dX12_tells_215 (tgt := 219) rfl ?_
      refine X_istore_n dX12_tells_219 (by decide) rfl ?_
      refine X_iincN dX12_tells_220 rfl (by decide) rfl (e := x3 + 1) rfl ((h.2.2.2.2.2 c1).1 c2).1 ((h.2.2.2.2.2 c1).1 c2).2.1 ?_
      refine X_goto dX12_tells_223 (tgt := 176) rfl ?_
      exact ((h.2.2.2.2.2 c1).1 c2).2.2
    · refine X_aload_n dX12_tells_193 rfl ?_
      refine X_iload_n dX12_tells_194 rfl ?_
      refine X_aload_n dX12_tells_195 rfl ?_
      refine X_getfield (ci := 12) (k := 29) (v := vr (V x0 29)) dX12_tells_196 rfl (by decide) kf_RX12_74 rfl h.1 ?_
      refine X_iconst dX12_tells_199 (by decide) ?_
      refine X_aload_n dX12_tells_200 rfl ?_
      refine X_getfield (ci := 12) (k := 41) (v := vi (V x0 41)) dX12_tells_201 rfl (by decide) kf_RX12_269 rfl h.1 ?_
      refine X_imulN dX12_tells_204 ((h.2.2.2.2.2 c1).2 c2).1 ((h.2.2.2.2.2 c1).2 c2).2.1 ?_
      refine X_iload_n dX12_tells_205 rfl ?_
      refine X_iaddN dX12_tells_206 ((h.2.2.2.2.2 c1).2 c2).2.2.1 ((h.2.2.2.2.2 c1).2 c2).2.2.2.1 ?_
      refine X_iaload dX12_tells_207 ((h.2.2.2.2.2 c1).2 c2).2.2.2.2.1 ((h.2.2.2.2.2 c1).2 c2).2.2.2.2.2.1 ((h.2.2.2.2.2 c1).2 c2).2.2.2.2.2.2.1 ?_
      refine X_invV (ci := 12) (as := [vi x1, vi (V (V x0 29) ((3 * (V x0 41)) + x3))]) (st := []) okX12_isSame dX12_tells_208 km_RX12_297 rfl rfl (Nat.le_of_ble_eq_true rfl) rfl rfl h.1 (CT.imp ((h.2.2.2.2.2 c1).2 c2).2.2.2.2.2.2.2 (fun z3 S3 V3 mc3 ms3 hc4 => ?_))
      refine X_if_eq dX12_tells_211 (tgt := 218) rfl (fun c5 => ?_) (fun c5 => ?_)
      · refine X_iconst dX12_tells_218 (by decide) ?_
        refine X_istore_n dX12_tells_219 (by decide) rfl ?_
        refine X_iincN dX12_tells_220 rfl (by decide) rfl (e := x3 + 1) rfl (hc4.1 c5).1 (hc4.1 c5).2.1 ?_
        refine X_goto dX12_tells_223 (tgt := 176) rfl ?_
        exact (hc4.1 c5).2.2
      · refine X_iconst dX12_tells_214 (by decide) ?_
        refine X_goto dX12_tells_215 (tgt := 219) rfl ?_
        refine X_istore_n dX12_tells_219 (by decide) rfl ?_
        refine X_iincN dX12_tells_220 rfl (by decide) rfl (e := x3 + 1) rfl (hc4.2 c5).1 (hc4.2 c5).2.1 ?_
        refine X_goto dX12_tells_223 (tgt := 176) rfl ?_
        exact (hc4.2 c5).2.2
theorem qX12_tells {l : Launch} {G : GT} {Q : Int → Sh → Mem → Prop} {d : Nat} {S : Sh} {V : Mem} {mc ms : Nat} {x0 : Int} (h : 0 ≤ x0 → XJ l G bX12_tells Q d 0 [vr x0, vu, vu, vu] [] S V mc ms) : Ct l G bX12_tells Q d mc ms [vr x0] S V := Ct.of okX12_tells.1 trivial (Nat.le_of_ble_eq_true rfl) (fun hv => h (hv _ (List.mem_of_getElem? (i := 0) rfl)))
set_option maxRecDepth 10000 in
theorem vX12_enumOf_0 {l : Launch} {G : GT} {Q : Int → Sh → Mem → Prop} {d : Nat} {S : Sh} {V : Mem} {mc ms : Nat} {x0 x1 : Int} (h : XJ l G bX12_enumOf Q d 2 [vr x0, vi x1, vi 0] [] S V mc ms) : XJ l G bX12_enumOf Q d 0 [vr x0, vi x1, vu] [] S V mc ms := by
  refine X_iconst dX12_enumOf_0 (by decide) ?_
  refine X_istore_n dX12_enumOf_1 (by decide) rfl ?_
  exact h
set_option maxRecDepth 10000 in
theorem vX12_enumOf_2 {l : Launch} {G : GT} {Q : Int → Sh → Mem → Prop} {d : Nat} {S : Sh} {V : Mem} {mc ms : Nat} {x0 x1 x2 : Int} (h : S.1 x0 = 13 ∧ S.1 (V x0 10) = 20 ∧ 0 ≤ (V x0 9) ∧ (V x0 9) < S.2.1 (V x0 10) ∧ ((V (V x0 10) (V x0 9)) ≤ x2 → Q (-1) S V) ∧ (¬ ((V (V x0 10) (V x0 9)) ≤ x2) → -2147483648 ≤ 12 * (V x0 9) ∧ 12 * (V x0 9) ≤ 2147483647 ∧ -2147483648 ≤ (12 * (V x0 9)) + x2 ∧ (12 * (V x0 9)) + x2 ≤ 2147483647 ∧ S.1 (V x0 13) = 20 ∧ 0 ≤ ((12 * (V x0 9)) + x2) ∧ ((12 * (V x0 9)) + x2) < S.2.1 (V x0 13) ∧ CT l G bX12_isSame d mc ms [vr x0, vi x1, vi (V (V x0 13) ((12 * (V x0 9)) + x2))] S V (fun z2 S2 V2 mc2 ms2 => (z2 = 0 → -2147483648 ≤ x2 + 1 ∧ x2 + 1 ≤ 2147483647 ∧ XJ l G bX12_enumOf Q d 2 [vr x0, vi x1, vi (x2 + 1)] [] S2 V2 mc2 ms2) ∧ (¬ (z2 = 0) → Q x2 S2 V2)))) : XJ l G bX12_enumOf Q d 2 [vr x0, vi x1, vi x2] [] S V mc ms := by
  refine X_iload_n dX12_enumOf_2 rfl ?_
  refine X_aload_n dX12_enumOf_3 rfl ?_
  refine X_getfield (ci := 12) (k := 10) (v := vr (V x0 10)) dX12_enumOf_4 rfl (by decide) kf_RX12_16 rfl h.1 ?_
  refine X_aload_n dX12_enumOf_7 rfl ?_
  refine X_getfield (ci := 12) (k := 9) (v := vi (V x0 9)) dX12_enumOf_8 rfl (by decide) kf_RX12_263 rfl h.1 ?_
  refine X_iaload dX12_enumOf_11 h.2.1 h.2.2.1 h.2.2.2.1 ?_
  refine X_icmp_ge dX12_enumOf_12 (tgt := 45) rfl (fun c1 => ?_) (fun c1 => ?_)
  · refine X_iconst dX12_enumOf_45 (by decide) ?_
    exact X_ret (z := (-1)) dX12_enumOf_46 rfl (fun hv => vok_h hv) (h.2.2.2.2.1 c1)
  · refine X_aload_n dX12_enumOf_15 rfl ?_
    refine X_iload_n dX12_enumOf_16 rfl ?_
    refine X_aload_n dX12_enumOf_17 rfl ?_
    refine X_getfield (ci := 12) (k := 13) (v := vr (V x0 13)) dX12_enumOf_18 rfl (by decide) kf_RX12_26 rfl h.1 ?_
    refine X_bipush dX12_enumOf_21 (by decide) (by decide) ?_
    refine X_aload_n dX12_enumOf_23 rfl ?_
    refine X_getfield (ci := 12) (k := 9) (v := vi (V x0 9)) dX12_enumOf_24 rfl (by decide) kf_RX12_263 rfl h.1 ?_
    refine X_imulN dX12_enumOf_27 (h.2.2.2.2.2 c1).1 (h.2.2.2.2.2 c1).2.1 ?_
    refine X_iload_n dX12_enumOf_28 rfl ?_
    refine X_iaddN dX12_enumOf_29 (h.2.2.2.2.2 c1).2.2.1 (h.2.2.2.2.2 c1).2.2.2.1 ?_
    refine X_iaload dX12_enumOf_30 (h.2.2.2.2.2 c1).2.2.2.2.1 (h.2.2.2.2.2 c1).2.2.2.2.2.1 (h.2.2.2.2.2 c1).2.2.2.2.2.2.1 ?_
    refine X_invV (ci := 12) (as := [vi x1, vi (V (V x0 13) ((12 * (V x0 9)) + x2))]) (st := []) okX12_isSame dX12_enumOf_31 km_RX12_297 rfl rfl (Nat.le_of_ble_eq_true rfl) rfl rfl h.1 (CT.imp (h.2.2.2.2.2 c1).2.2.2.2.2.2.2 (fun z2 S2 V2 mc2 ms2 hc3 => ?_))
    refine X_if_eq dX12_enumOf_34 (tgt := 39) rfl (fun c4 => ?_) (fun c4 => ?_)
    · refine X_iincN dX12_enumOf_39 rfl (by decide) rfl (e := x2 + 1) rfl (hc3.1 c4).1 (hc3.1 c4).2.1 ?_
      refine X_goto dX12_enumOf_42 (tgt := 2) rfl ?_
      exact (hc3.1 c4).2.2
    · refine X_iload_n dX12_enumOf_37 rfl ?_
      exact X_ret (z := x2) dX12_enumOf_38 rfl (fun hv => vok_h hv) (hc3.2 c4)
theorem qX12_enumOf {l : Launch} {G : GT} {Q : Int → Sh → Mem → Prop} {d : Nat} {S : Sh} {V : Mem} {mc ms : Nat} {x0 x1 : Int} (h : 0 ≤ x0 → inI x1 → XJ l G bX12_enumOf Q d 0 [vr x0, vi x1, vu] [] S V mc ms) : Ct l G bX12_enumOf Q d mc ms [vr x0, vi x1] S V := Ct.of okX12_enumOf.1 trivial (Nat.le_of_ble_eq_true rfl) (fun hv => h (hv _ (List.mem_of_getElem? (i := 0) rfl)) (hv _ (List.mem_of_getElem? (i := 1) rfl)))
set_option maxRecDepth 10000 in
theorem vX12_readBook_0 {l : Launch} {G : GT} {Q : Int → Sh → Mem → Prop} {d : Nat} {S : Sh} {V : Mem} {mc ms : Nat} {x0 : Int} (h : S.1 x0 = 13 ∧ S.1 (V x0 10) = 20 ∧ 0 ≤ (V x0 9) ∧ (V x0 9) < S.2.1 (V x0 10) ∧ S.1 (V x0 11) = 20 ∧ (V x0 9) < S.2.1 (V x0 11) ∧ CT l G bX12_next d mc ms [vr x0] S (up (up (up (up (up V x0 46 0) x0 51 0) x0 5 0) (V x0 10) (V x0 9) 0) (V x0 11) (V x0 9) 0) (fun z1 S1 V1 mc1 ms1 => XJ l G bX12_readBook Q d 39 [vr x0, vu] [] S1 V1 mc1 ms1)) : XJ l G bX12_readBook Q d 0 [vr x0, vu] [] S V mc ms := by
  refine X_aload_n dX12_readBook_0 rfl ?_
  refine X_iconst dX12_readBook_1 (by decide) ?_
  refine X_putfield (ci := 12) (k := 46) (z := 0) dX12_readBook_2 rfl (by decide) kf_RX12_275 (Or.inl rfl) (Or.inl rfl) rfl (fun hv => hv) h.1 ?_
  refine X_aload_n dX12_readBook_5 rfl ?_
  refine X_iconst dX12_readBook_6 (by decide) ?_
  refine X_putfield (ci := 12) (k := 51) (z := 0) dX12_readBook_7 rfl (by decide) kf_RX12_301 (Or.inl rfl) (Or.inl rfl) rfl (fun hv => hv) h.1 ?_
  refine X_aload_n dX12_readBook_10 rfl ?_
  refine X_iconst dX12_readBook_11 (by decide) ?_
  refine X_putfield (ci := 12) (k := 5) (z := 0) dX12_readBook_12 rfl (by decide) kf_RX12_195 (Or.inl rfl) (Or.inl rfl) rfl (fun hv => hv) h.1 ?_
  refine X_aload_n dX12_readBook_15 rfl ?_
  refine X_getfield (ci := 12) (k := 10) (v := vr (V x0 10)) dX12_readBook_16 rfl (by decide) kf_RX12_16 (congrArg vr ((up_ne (Or.inr (by decide))).trans ((up_ne (Or.inr (by decide))).trans (up_ne (Or.inr (by decide)))))) h.1 ?_
  refine X_aload_n dX12_readBook_19 rfl ?_
  refine X_getfield (ci := 12) (k := 9) (v := vi (V x0 9)) dX12_readBook_20 rfl (by decide) kf_RX12_263 (congrArg vi ((up_ne (Or.inr (by decide))).trans ((up_ne (Or.inr (by decide))).trans (up_ne (Or.inr (by decide)))))) h.1 ?_
  refine X_iconst dX12_readBook_23 (by decide) ?_
  refine X_iastore dX12_readBook_24 h.2.1 h.2.2.1 h.2.2.2.1 ?_
  refine X_aload_n dX12_readBook_25 rfl ?_
  refine X_getfield (ci := 12) (k := 11) (v := vr (V x0 11)) dX12_readBook_26 rfl (by decide) kf_RX12_20 (congrArg vr ((up_ne (Or.inl (tag_ne h.1 h.2.1 (by decide)))).trans ((up_ne (Or.inr (by decide))).trans ((up_ne (Or.inr (by decide))).trans (up_ne (Or.inr (by decide))))))) h.1 ?_
  refine X_aload_n dX12_readBook_29 rfl ?_
  refine X_getfield (ci := 12) (k := 9) (v := vi (V x0 9)) dX12_readBook_30 rfl (by decide) kf_RX12_263 (congrArg vi ((up_ne (Or.inl (tag_ne h.1 h.2.1 (by decide)))).trans ((up_ne (Or.inr (by decide))).trans ((up_ne (Or.inr (by decide))).trans (up_ne (Or.inr (by decide))))))) h.1 ?_
  refine X_iconst dX12_readBook_33 (by decide) ?_
  refine X_iastore dX12_readBook_34 h.2.2.2.2.1 h.2.2.1 h.2.2.2.2.2.1 ?_
  refine X_aload_n dX12_readBook_35 rfl ?_
  refine X_invV (ci := 12) (as := []) (st := []) okX12_next dX12_readBook_36 km_RX12_285 rfl rfl (Nat.le_of_ble_eq_true rfl) rfl rfl h.1 (CT.imp h.2.2.2.2.2.2 (fun z1 S1 V1 mc1 ms1 hc2 => ?_))
  exact hc2
set_option maxRecDepth 10000 in
theorem vX12_readBook_39 {l : Launch} {G : GT} {Q : Int → Sh → Mem → Prop} {d : Nat} {S : Sh} {V : Mem} {mc ms : Nat} {x0 : Int} (h : S.1 x0 = 13 ∧ CT l G bX12_readEnum d mc ms [vr x0] S V (fun z1 S1 V1 mc1 ms1 => S1.1 x0 = 13 ∧ ((V1 x0 46) ≠ 0 → XJ l G bX12_readBook Q d 59 [vr x0, vi 0] [] S1 V1 mc1 ms1) ∧ (¬ ((V1 x0 46) ≠ 0) → ((V1 x0 3) ≠ 0 → XJ l G bX12_readBook Q d 39 [vr x0, vu] [] S1 V1 mc1 ms1) ∧ (¬ ((V1 x0 3) ≠ 0) → XJ l G bX12_readBook Q d 59 [vr x0, vi 0] [] S1 V1 mc1 ms1)))) : XJ l G bX12_readBook Q d 39 [vr x0, vu] [] S V mc ms := by
  refine X_aload_n dX12_readBook_39 rfl ?_
  refine X_invV (ci := 12) (as := []) (st := []) okX12_readEnum dX12_readBook_40 km_RX12_304 rfl rfl (Nat.le_of_ble_eq_true rfl) rfl rfl h.1 (CT.imp h.2 (fun z1 S1 V1 mc1 ms1 hc2 => ?_))
  refine X_aload_n dX12_readBook_43 rfl ?_
  refine X_getfield (ci := 12) (k := 46) (v := vi (V1 x0 46)) dX12_readBook_44 rfl (by decide) kf_RX12_275 rfl hc2.1 ?_
  refine X_if_ne dX12_readBook_47 (tgt := 57) rfl (fun c3 => ?_) (fun c3 => ?_)
  · refine X_iconst dX12_readBook_57 (by decide) ?_
    refine X_istore_n dX12_readBook_58 (by decide) rfl ?_
    exact (hc2.2.1 c3)
  · refine X_aload_n dX12_readBook_50 rfl ?_
    refine X_getfield (ci := 12) (k := 3) (v := vi (V1 x0 3)) dX12_readBook_51 rfl (by decide) kf_RX12_205 rfl hc2.1 ?_
    refine X_if_ne dX12_readBook_54 (tgt := 39) rfl (fun c4 => ?_) (fun c4 => ?_)
    · exact ((hc2.2.2 c3).1 c4)
    · refine X_iconst dX12_readBook_57 (by decide) ?_
      refine X_istore_n dX12_readBook_58 (by decide) rfl ?_
      exact ((hc2.2.2 c3).2 c4)
set_option maxRecDepth 10000 in
theorem vX12_readBook_59 {l : Launch} {G : GT} {Q : Int → Sh → Mem → Prop} {d : Nat} {S : Sh} {V : Mem} {mc ms : Nat} {x0 x1 : Int} (h : S.1 x0 = 13 ∧ ((V x0 51) ≤ x1 → Q 0 S V) ∧ (¬ ((V x0 51) ≤ x1) → ((V x0 46) ≠ 0 → Q 0 S V) ∧ (¬ ((V x0 46) ≠ 0) → CT l G bX12_settle d mc ms [vr x0, vi x1] S V (fun z3 S3 V3 mc3 ms3 => -2147483648 ≤ x1 + 1 ∧ x1 + 1 ≤ 2147483647 ∧ XJ l G bX12_readBook Q d 59 [vr x0, vi (x1 + 1)] [] S3 V3 mc3 ms3)))) : XJ l G bX12_readBook Q d 59 [vr x0, vi x1] [] S V mc ms := by
  refine X_iload_n dX12_readBook_59 rfl ?_
  refine X_aload_n dX12_readBook_60 rfl ?_
  refine X_getfield (ci := 12) (k := 51) (v := vi (V x0 51)) dX12_readBook_61 rfl (by decide) kf_RX12_301 rfl h.1 ?_
  refine X_icmp_ge dX12_readBook_64 (tgt := 85) rfl (fun c1 => ?_) (fun c1 => ?_)
  · exact X_ret (z := 0) dX12_readBook_85 rfl (fun _ => trivial) (h.2.1 c1)
  · refine X_aload_n dX12_readBook_67 rfl ?_
    refine X_getfield (ci := 12) (k := 46) (v := vi (V x0 46)) dX12_readBook_68 rfl (by decide) kf_RX12_275 rfl h.1 ?_
    refine X_if_ne dX12_readBook_71 (tgt := 85) rfl (fun c2 => ?_) (fun c2 => ?_)
    · exact X_ret (z := 0) dX12_readBook_85 rfl (fun _ => trivial) ((h.2.2 c1).1 c2)
    · refine X_aload_n dX12_readBook_74 rfl ?_
      refine X_iload_n dX12_readBook_75 rfl ?_
      refine X_invV (ci := 12) (as := [vi x1]) (st := []) okX12_settle dX12_readBook_76 km_RX12_307 rfl rfl (Nat.le_of_ble_eq_true rfl) rfl rfl h.1 (CT.imp ((h.2.2 c1).2 c2) (fun z3 S3 V3 mc3 ms3 hc4 => ?_))
      refine X_iincN dX12_readBook_79 rfl (by decide) rfl (e := x1 + 1) rfl hc4.1 hc4.2.1 ?_
      refine X_goto dX12_readBook_82 (tgt := 59) rfl ?_
      exact hc4.2.2
theorem qX12_readBook {l : Launch} {G : GT} {Q : Int → Sh → Mem → Prop} {d : Nat} {S : Sh} {V : Mem} {mc ms : Nat} {x0 : Int} (h : 0 ≤ x0 → XJ l G bX12_readBook Q d 0 [vr x0, vu] [] S V mc ms) : Ct l G bX12_readBook Q d mc ms [vr x0] S V := Ct.of okX12_readBook.1 trivial (Nat.le_of_ble_eq_true rfl) (fun hv => h (hv _ (List.mem_of_getElem? (i := 0) rfl)))
set_option maxRecDepth 10000 in
theorem vX12_readEnum_0 {l : Launch} {G : GT} {Q : Int → Sh → Mem → Prop} {d : Nat} {S : Sh} {V : Mem} {mc ms : Nat} {x0 : Int} (h : S.1 x0 = 13 ∧ CT l G bX12_isWord d mc ms [vr x0, vr ((G.2.2.2.1 4 : Int) + 1)] S V (fun z1 S1 V1 mc1 ms1 => (z1 ≠ 0 → S1.1 x0 = 13 ∧ S1.1 (V1 x0 10) = 20 ∧ 0 ≤ (V1 x0 9) ∧ (V1 x0 9) < S1.2.1 (V1 x0 10) ∧ ((V1 (V1 x0 10) (V1 x0 9)) ≠ 12 → CT l G bX12_next d mc1 ms1 [vr x0] S1 V1 (fun z5 S5 V5 mc5 ms5 => S5.1 x0 = 13 ∧ -2147483648 ≤ 12 * (V5 x0 9) ∧ 12 * (V5 x0 9) ≤ 2147483647 ∧ S5.1 (V5 x0 10) = 20 ∧ 0 ≤ (V5 x0 9) ∧ (V5 x0 9) < S5.2.1 (V5 x0 10) ∧ -2147483648 ≤ (12 * (V5 x0 9)) + (V5 (V5 x0 10) (V5 x0 9)) ∧ (12 * (V5 x0 9)) + (V5 (V5 x0 10) (V5 x0 9)) ≤ 2147483647 ∧ CT l G bX12_isName d mc5 ms5 [vr x0] S5 (up V5 x0 41 ((12 * (V5 x0 9)) + (V5 (V5 x0 10) (V5 x0 9)))) (fun z7 S7 V7 mc7 ms7 => (z7 = 0 → S7.1 x0 = 13 ∧ CT l G bX12_newName d mc7 ms7 [vr x0, vi 0] S7 V7 (fun z10 S10 V10 mc10 ms10 => S10.1 (V5 x0 13) = 20 ∧ 0 ≤ ((12 * (V5 x0 9)) + (V5 (V5 x0 10) (V5 x0 9))) ∧ ((12 * (V5 x0 9)) + (V5 (V5 x0 10) (V5 x0 9))) < S10.2.1 (V5 x0 13) ∧ S10.1 x0 = 13 ∧ ((V10 x0 46) ≤ 0 → S10.1 (V10 x0 10) = 20 ∧ 0 ≤ (V10 x0 9) ∧ (V10 x0 9) < S10.2.1 (V10 x0 10) ∧ -2147483648 ≤ ((up V10 (V5 x0 13) ((12 * (V5 x0 9)) + (V5 (V5 x0 10) (V5 x0 9))) z10) (V10 x0 10) (V10 x0 9)) + 1 ∧ ((up V10 (V5 x0 13) ((12 * (V5 x0 9)) + (V5 (V5 x0 10) (V5 x0 9))) z10) (V10 x0 10) (V10 x0 9)) + 1 ≤ 2147483647 ∧ S10.1 (V10 x0 14) = 20 ∧ 0 ≤ (V10 x0 41) ∧ (V10 x0 41) < S10.2.1 (V10 x0 14) ∧ S10.1 (V10 x0 15) = 20 ∧ (V10 x0 41) < S10.2.1 (V10 x0 15) ∧ S10.1 (V10 x0 16) = 20 ∧ (V10 x0 41) < S10.2.1 (V10 x0 16) ∧ S10.1 (V10 x0 17) = 20 ∧ (V10 x0 41) < S10.2.1 (V10 x0 17) ∧ S10.1 (V10 x0 18) = 20 ∧ (V10 x0 41) < S10.2.1 (V10 x0 18) ∧ XJ l G bX12_readEnum Q d 172 [vr x0, vi 0] [] S10 (up (up (up (up (up (up (up V10 (V5 x0 13) ((12 * (V5 x0 9)) + (V5 (V5 x0 10) (V5 x0 9))) z10) (V10 x0 10) (V10 x0 9) (((up V10 (V5 x0 13) ((12 * (V5 x0 9)) + (V5 (V5 x0 10) (V5 x0 9))) z10) (V10 x0 10) (V10 x0 9)) + 1)) (V10 x0 14) (V10 x0 41) 0) (V10 x0 15) (V10 x0 41) 0) (V10 x0 16) (V10 x0 41) 0) (V10 x0 17) (V10 x0 41) 0) (V10 x0 18) (V10 x0 41) 0) mc10 ms10) ∧ (¬ ((V10 x0 46) ≤ 0) → Q 0 S10 (up V10 (V5 x0 13) ((12 * (V5 x0 9)) + (V5 (V5 x0 10) (V5 x0 9))) z10)))) ∧ (¬ (z7 = 0) → S7.1 x0 = 13 ∧ CT l G bX12_nameHere d mc7 ms7 [vr x0] S7 V7 (fun z13 S13 V13 mc13 ms13 => S13.1 x0 = 13 ∧ CT l G bX12_enumOf d mc13 ms13 [vr x0, vi z13] S13 V13 (fun z15 S15 V15 mc15 ms15 => (z15 = (-1) → S15.1 x0 = 13 ∧ CT l G bX12_newName d mc15 ms15 [vr x0, vi 0] S15 V15 (fun z18 S18 V18 mc18 ms18 => S18.1 (V5 x0 13) = 20 ∧ 0 ≤ ((12 * (V5 x0 9)) + (V5 (V5 x0 10) (V5 x0 9))) ∧ ((12 * (V5 x0 9)) + (V5 (V5 x0 10) (V5 x0 9))) < S18.2.1 (V5 x0 13) ∧ S18.1 x0 = 13 ∧ ((V18 x0 46) ≤ 0 → S18.1 (V18 x0 10) = 20 ∧ 0 ≤ (V18 x0 9) ∧ (V18 x0 9) < S18.2.1 (V18 x0 10) ∧ -2147483648 ≤ ((up V18 (V5 x0 13) ((12 * (V5 x0 9)) + (V5 (V5 x0 10) (V5 x0 9))) z18) (V18 x0 10) (V18 x0 9)) + 1 ∧ ((up V18 (V5 x0 13) ((12 * (V5 x0 9)) + (V5 (V5 x0 10) (V5 x0 9))) z18) (V18 x0 10) (V18 x0 9)) + 1 ≤ 2147483647 ∧ S18.1 (V18 x0 14) = 20 ∧ 0 ≤ (V18 x0 41) ∧ (V18 x0 41) < S18.2.1 (V18 x0 14) ∧ S18.1 (V18 x0 15) = 20 ∧ (V18 x0 41) < S18.2.1 (V18 x0 15) ∧ S18.1 (V18 x0 16) = 20 ∧ (V18 x0 41) < S18.2.1 (V18 x0 16) ∧ S18.1 (V18 x0 17) = 20 ∧ (V18 x0 41) < S18.2.1 (V18 x0 17) ∧ S18.1 (V18 x0 18) = 20 ∧ (V18 x0 41) < S18.2.1 (V18 x0 18) ∧ XJ l G bX12_readEnum Q d 172 [vr x0, vi 0] [] S18 (up (up (up (up (up (up (up V18 (V5 x0 13) ((12 * (V5 x0 9)) + (V5 (V5 x0 10) (V5 x0 9))) z18) (V18 x0 10) (V18 x0 9) (((up V18 (V5 x0 13) ((12 * (V5 x0 9)) + (V5 (V5 x0 10) (V5 x0 9))) z18) (V18 x0 10) (V18 x0 9)) + 1)) (V18 x0 14) (V18 x0 41) 0) (V18 x0 15) (V18 x0 41) 0) (V18 x0 16) (V18 x0 41) 0) (V18 x0 17) (V18 x0 41) 0) (V18 x0 18) (V18 x0 41) 0) mc18 ms18) ∧ (¬ ((V18 x0 46) ≤ 0) → Q 0 S18 (up V18 (V5 x0 13) ((12 * (V5 x0 9)) + (V5 (V5 x0 10) (V5 x0 9))) z18)))) ∧ (¬ (z15 = (-1)) → S15.1 x0 = 13 ∧ CT l G bX12_newName d mc15 ms15 [vr x0, vi 1] S15 V15 (fun z21 S21 V21 mc21 ms21 => S21.1 (V5 x0 13) = 20 ∧ 0 ≤ ((12 * (V5 x0 9)) + (V5 (V5 x0 10) (V5 x0 9))) ∧ ((12 * (V5 x0 9)) + (V5 (V5 x0 10) (V5 x0 9))) < S21.2.1 (V5 x0 13) ∧ S21.1 x0 = 13 ∧ ((V21 x0 46) ≤ 0 → S21.1 (V21 x0 10) = 20 ∧ 0 ≤ (V21 x0 9) ∧ (V21 x0 9) < S21.2.1 (V21 x0 10) ∧ -2147483648 ≤ ((up V21 (V5 x0 13) ((12 * (V5 x0 9)) + (V5 (V5 x0 10) (V5 x0 9))) z21) (V21 x0 10) (V21 x0 9)) + 1 ∧ ((up V21 (V5 x0 13) ((12 * (V5 x0 9)) + (V5 (V5 x0 10) (V5 x0 9))) z21) (V21 x0 10) (V21 x0 9)) + 1 ≤ 2147483647 ∧ S21.1 (V21 x0 14) = 20 ∧ 0 ≤ (V21 x0 41) ∧ (V21 x0 41) < S21.2.1 (V21 x0 14) ∧ S21.1 (V21 x0 15) = 20 ∧ (V21 x0 41) < S21.2.1 (V21 x0 15) ∧ S21.1 (V21 x0 16) = 20 ∧ (V21 x0 41) < S21.2.1 (V21 x0 16) ∧ S21.1 (V21 x0 17) = 20 ∧ (V21 x0 41) < S21.2.1 (V21 x0 17) ∧ S21.1 (V21 x0 18) = 20 ∧ (V21 x0 41) < S21.2.1 (V21 x0 18) ∧ XJ l G bX12_readEnum Q d 172 [vr x0, vi 0] [] S21 (up (up (up (up (up (up (up V21 (V5 x0 13) ((12 * (V5 x0 9)) + (V5 (V5 x0 10) (V5 x0 9))) z21) (V21 x0 10) (V21 x0 9) (((up V21 (V5 x0 13) ((12 * (V5 x0 9)) + (V5 (V5 x0 10) (V5 x0 9))) z21) (V21 x0 10) (V21 x0 9)) + 1)) (V21 x0 14) (V21 x0 41) 0) (V21 x0 15) (V21 x0 41) 0) (V21 x0 16) (V21 x0 41) 0) (V21 x0 17) (V21 x0 41) 0) (V21 x0 18) (V21 x0 41) 0) mc21 ms21) ∧ (¬ ((V21 x0 46) ≤ 0) → Q 0 S21 (up V21 (V5 x0 13) ((12 * (V5 x0 9)) + (V5 (V5 x0 10) (V5 x0 9))) z21)))))))))) ∧ (¬ ((V1 (V1 x0 10) (V1 x0 9)) ≠ 12) → CT l G bX12_fault d mc1 ms1 [vr x0, vi 5] S1 V1 (fun z24 S24 V24 mc24 ms24 => Q 0 S24 V24))) ∧ (¬ (z1 ≠ 0) → S1.1 x0 = 13 ∧ CT l G bX12_fault d mc1 ms1 [vr x0, vi 2] S1 V1 (fun z26 S26 V26 mc26 ms26 => Q 0 S26 V26)))) : XJ l G bX12_readEnum Q d 0 [vr x0, vu] [] S V mc ms := by
  refine X_aload_n dX12_readEnum_0 rfl ?_
  refine X_ldcS (i := 4) dX12_readEnum_1 (by decide) ⟨rfl, rfl⟩ ?_
  refine X_invV (ci := 12) (as := [vr ((G.2.2.2.1 4 : Int) + 1)]) (st := []) okX12_isWord dX12_readEnum_3 km_RX12_235 rfl rfl (Nat.le_of_ble_eq_true rfl) rfl rfl h.1 (CT.imp h.2 (fun z1 S1 V1 mc1 ms1 hc2 => ?_))
  refine X_if_ne dX12_readEnum_6 (tgt := 16) rfl (fun c3 => ?_) (fun c3 => ?_)
  · refine X_aload_n dX12_readEnum_16 rfl ?_
    refine X_getfield (ci := 12) (k := 10) (v := vr (V1 x0 10)) dX12_readEnum_17 rfl (by decide) kf_RX12_16 rfl (hc2.1 c3).1 ?_
    refine X_aload_n dX12_readEnum_20 rfl ?_
    refine X_getfield (ci := 12) (k := 9) (v := vi (V1 x0 9)) dX12_readEnum_21 rfl (by decide) kf_RX12_263 rfl (hc2.1 c3).1 ?_
    refine X_iaload dX12_readEnum_24 (hc2.1 c3).2.1 (hc2.1 c3).2.2.1 (hc2.1 c3).2.2.2.1 ?_
    refine X_bipush dX12_readEnum_25 (by decide) (by decide) ?_
    refine X_icmp_ne dX12_readEnum_27 (tgt := 37) rfl (fun c4 => ?_) (fun c4 => ?_)
    · refine X_aload_n dX12_readEnum_37 rfl ?_
      refine X_invV (ci := 12) (as := []) (st := []) okX12_next dX12_readEnum_38 km_RX12_285 rfl rfl (Nat.le_of_ble_eq_true rfl) rfl rfl (hc2.1 c3).1 (CT.imp ((hc2.1 c3).2.2.2.2.1 c4) (fun z5 S5 V5 mc5 ms5 hc6 => ?_))
      refine X_aload_n dX12_readEnum_41 rfl ?_
      refine X_bipush dX12_readEnum_42 (by decide) (by decide) ?_
      refine X_aload_n dX12_readEnum_44 rfl ?_
      refine X_getfield (ci := 12) (k := 9) (v := vi (V5 x0 9)) dX12_readEnum_45 rfl (by decide) kf_RX12_263 rfl hc6.1 ?_
      refine X_imulN dX12_readEnum_48 hc6.2.1 hc6.2.2.1 ?_
      refine X_aload_n dX12_readEnum_49 rfl ?_
      refine X_getfield (ci := 12) (k := 10) (v := vr (V5 x0 10)) dX12_readEnum_50 rfl (by decide) kf_RX12_16 rfl hc6.1 ?_
      refine X_aload_n dX12_readEnum_53 rfl ?_
      refine X_getfield (ci := 12) (k := 9) (v := vi (V5 x0 9)) dX12_readEnum_54 rfl (by decide) kf_RX12_263 rfl hc6.1 ?_
      refine X_iaload dX12_readEnum_57 hc6.2.2.2.1 hc6.2.2.2.2.1 hc6.2.2.2.2.2.1 ?_
      refine X_iaddN dX12_readEnum_58 hc6.2.2.2.2.2.2.1 hc6.2.2.2.2.2.2.2.1 ?_
      refine X_putfield (ci := 12) (k := 41) (z := ((12 * (V5 x0 9)) + (V5 (V5 x0 10) (V5 x0 9)))) dX12_readEnum_59 rfl (by decide) kf_RX12_269 (Or.inl rfl) (Or.inl rfl) rfl (fun hv => hv) hc6.1 ?_
      refine X_aload_n dX12_readEnum_62 rfl ?_
      refine X_getfield (ci := 12) (k := 13) (v := vr (V5 x0 13)) dX12_readEnum_63 rfl (by decide) kf_RX12_26 (congrArg vr (up_ne (Or.inr (by decide)))) hc6.1 ?_
      refine X_aload_n dX12_readEnum_66 rfl ?_
      refine X_getfield (ci := 12) (k := 41) (v := vi ((12 * (V5 x0 9)) + (V5 (V5 x0 10) (V5 x0 9)))) dX12_readEnum_67 rfl (by decide) kf_RX12_269 (congrArg vi up_eq) hc6.1 ?_
      refine X_aload_n dX12_readEnum_70 rfl ?_
      refine X_aload_n dX12_readEnum_71 rfl ?_
      refine X_invV (ci := 12) (as := []) (st := [vr x0, vi ((12 * (V5 x0 9)) + (V5 (V5 x0 10) (V5 x0 9))), vr (V5 x0 13)]) okX12_isName dX12_readEnum_72 km_RX12_291 rfl rfl (Nat.le_of_ble_eq_true rfl) rfl rfl hc6.1 (CT.imp hc6.2.2.2.2.2.2.2.2 (fun z7 S7 V7 mc7 ms7 hc8 => ?_))
      refine X_if_eq dX12_readEnum_75 (tgt := 94) rfl (fun c9 => ?_) (fun c9 => ?_)
      · refine X_iconst dX12_readEnum_94 (by decide) ?_
        refine X_invV (ci := 12) (as := [vi 0]) (st := [vi ((12 * (V5 x0 9)) + (V5 (V5 x0 10) (V5 x0 9))), vr (V5 x0 13)]) okX12_newName dX12_readEnum_95 km_RX12_314 rfl rfl (Nat.le_of_ble_eq_true rfl) rfl rfl (hc8.1 c9).1 (CT.imp (hc8.1 c9).2 (fun z10 S10 V10 mc10 ms10 hc11 => ?_))
        refine X_iastore dX12_readEnum_98 hc11.1 hc11.2.1 hc11.2.2.1 ?_
        refine X_aload_n dX12_readEnum_99 rfl ?_
        refine X_getfield (ci := 12) (k := 46) (v := vi (V10 x0 46)) dX12_readEnum_100 rfl (by decide) kf_RX12_275 (congrArg vi (up_ne (Or.inl (tag_ne hc11.2.2.2.1 hc11.1 (by decide))))) hc11.2.2.2.1 ?_
        refine X_if_le dX12_readEnum_103 (tgt := 107) rfl (fun c12 => ?_) (fun c12 => ?_)
        · refine X_aload_n dX12_readEnum_107 rfl ?_
          refine X_getfield (ci := 12) (k := 10) (v := vr (V10 x0 10)) dX12_readEnum_108 rfl (by decide) kf_RX12_16 (congrArg vr (up_ne (Or.inl (tag_ne hc11.2.2.2.1 hc11.1 (by decide))))) hc11.2.2.2.1 ?_
          refine X_aload_n dX12_readEnum_111 rfl ?_
          refine X_getfield (ci := 12) (k := 9) (v := vi (V10 x0 9)) dX12_readEnum_112 rfl (by decide) kf_RX12_263 (congrArg vi (up_ne (Or.inl (tag_ne hc11.2.2.2.1 hc11.1 (by decide))))) hc11.2.2.2.1 ?_
          refine X_dup2 dX12_readEnum_115 rfl (rv_cat _) ?_
          refine X_iaload dX12_readEnum_116 (hc11.2.2.2.2.1 c12).1 (hc11.2.2.2.2.1 c12).2.1 (hc11.2.2.2.2.1 c12).2.2.1 ?_
          refine X_iconst dX12_readEnum_117 (by decide) ?_
          refine X_iaddN dX12_readEnum_118 (hc11.2.2.2.2.1 c12).2.2.2.1 (hc11.2.2.2.2.1 c12).2.2.2.2.1 ?_
          refine X_iastore dX12_readEnum_119 (hc11.2.2.2.2.1 c12).1 (hc11.2.2.2.2.1 c12).2.1 (hc11.2.2.2.2.1 c12).2.2.1 ?_
          refine X_aload_n dX12_readEnum_120 rfl ?_
          refine X_getfield (ci := 12) (k := 14) (v := vr (V10 x0 14)) dX12_readEnum_121 rfl (by decide) kf_RX12_29 (congrArg vr ((up_ne (Or.inl (tag_ne hc11.2.2.2.1 (hc11.2.2.2.2.1 c12).1 (by decide)))).trans (up_ne (Or.inl (tag_ne hc11.2.2.2.1 hc11.1 (by decide)))))) hc11.2.2.2.1 ?_
          refine X_aload_n dX12_readEnum_124 rfl ?_
          refine X_getfield (ci := 12) (k := 41) (v := vi (V10 x0 41)) dX12_readEnum_125 rfl (by decide) kf_RX12_269 (congrArg vi ((up_ne (Or.inl (tag_ne hc11.2.2.2.1 (hc11.2.2.2.2.1 c12).1 (by decide)))).trans (up_ne (Or.inl (tag_ne hc11.2.2.2.1 hc11.1 (by decide)))))) hc11.2.2.2.1 ?_
          refine X_iconst dX12_readEnum_128 (by decide) ?_
          refine X_iastore dX12_readEnum_129 (hc11.2.2.2.2.1 c12).2.2.2.2.2.1 (hc11.2.2.2.2.1 c12).2.2.2.2.2.2.1 (hc11.2.2.2.2.1 c12).2.2.2.2.2.2.2.1 ?_
          refine X_aload_n dX12_readEnum_130 rfl ?_
          refine X_getfield (ci := 12) (k := 15) (v := vr (V10 x0 15)) dX12_readEnum_131 rfl (by decide) kf_RX12_32 (congrArg vr ((up_ne (Or.inl (tag_ne hc11.2.2.2.1 (hc11.2.2.2.2.1 c12).2.2.2.2.2.1 (by decide)))).trans ((up_ne (Or.inl (tag_ne hc11.2.2.2.1 (hc11.2.2.2.2.1 c12).1 (by decide)))).trans (up_ne (Or.inl (tag_ne hc11.2.2.2.1 hc11.1 (by decide))))))) hc11.2.2.2.1 ?_
          refine X_aload_n dX12_readEnum_134 rfl ?_
          refine X_getfield (ci := 12) (k := 41) (v := vi (V10 x0 41)) dX12_readEnum_135 rfl (by decide) kf_RX12_269 (congrArg vi ((up_ne (Or.inl (tag_ne hc11.2.2.2.1 (hc11.2.2.2.2.1 c12).2.2.2.2.2.1 (by decide)))).trans ((up_ne (Or.inl (tag_ne hc11.2.2.2.1 (hc11.2.2.2.2.1 c12).1 (by decide)))).trans (up_ne (Or.inl (tag_ne hc11.2.2.2.1 hc11.1 (by decide))))))) hc11.2.2.2.1 ?_
          refine X_iconst dX12_readEnum_138 (by decide) ?_
          refine X_iastore dX12_readEnum_139 (hc11.2.2.2.2.1 c12).2.2.2.2.2.2.2.2.1 (hc11.2.2.2.2.1 c12).2.2.2.2.2.2.1 (hc11.2.2.2.2.1 c12).2.2.2.2.2.2.2.2.2.1 ?_
          refine X_aload_n dX12_readEnum_140 rfl ?_
          refine X_getfield (ci := 12) (k := 16) (v := vr (V10 x0 16)) dX12_readEnum_141 rfl (by decide) kf_RX12_35 (congrArg vr ((up_ne (Or.inl (tag_ne hc11.2.2.2.1 (hc11.2.2.2.2.1 c12).2.2.2.2.2.2.2.2.1 (by decide)))).trans ((up_ne (Or.inl (tag_ne hc11.2.2.2.1 (hc11.2.2.2.2.1 c12).2.2.2.2.2.1 (by decide)))).trans ((up_ne (Or.inl (tag_ne hc11.2.2.2.1 (hc11.2.2.2.2.1 c12).1 (by decide)))).trans (up_ne (Or.inl (tag_ne hc11.2.2.2.1 hc11.1 (by decide)))))))) hc11.2.2.2.1 ?_
          refine X_aload_n dX12_readEnum_144 rfl ?_
          refine X_getfield (ci := 12) (k := 41) (v := vi (V10 x0 41)) dX12_readEnum_145 rfl (by decide) kf_RX12_269 (congrArg vi ((up_ne (Or.inl (tag_ne hc11.2.2.2.1 (hc11.2.2.2.2.1 c12).2.2.2.2.2.2.2.2.1 (by decide)))).trans ((up_ne (Or.inl (tag_ne hc11.2.2.2.1 (hc11.2.2.2.2.1 c12).2.2.2.2.2.1 (by decide)))).trans ((up_ne (Or.inl (tag_ne hc11.2.2.2.1 (hc11.2.2.2.2.1 c12).1 (by decide)))).trans (up_ne (Or.inl (tag_ne hc11.2.2.2.1 hc11.1 (by decide)))))))) hc11.2.2.2.1 ?_
          refine X_iconst dX12_readEnum_148 (by decide) ?_
          refine X_iastore dX12_readEnum_149 (hc11.2.2.2.2.1 c12).2.2.2.2.2.2.2.2.2.2.1 (hc11.2.2.2.2.1 c12).2.2.2.2.2.2.1 (hc11.2.2.2.2.1 c12).2.2.2.2.2.2.2.2.2.2.2.1 ?_
          refine X_aload_n dX12_readEnum_150 rfl ?_
          refine X_getfield (ci := 12) (k := 17) (v := vr (V10 x0 17)) dX12_readEnum_151 rfl (by decide) kf_RX12_38 (congrArg vr ((up_ne (Or.inl (tag_ne hc11.2.2.2.1 (hc11.2.2.2.2.1 c12).2.2.2.2.2.2.2.2.2.2.1 (by decide)))).trans ((up_ne (Or.inl (tag_ne hc11.2.2.2.1 (hc11.2.2.2.2.1 c12).2.2.2.2.2.2.2.2.1 (by decide)))).trans ((up_ne (Or.inl (tag_ne hc11.2.2.2.1 (hc11.2.2.2.2.1 c12).2.2.2.2.2.1 (by decide)))).trans ((up_ne (Or.inl (tag_ne hc11.2.2.2.1 (hc11.2.2.2.2.1 c12).1 (by decide)))).trans (up_ne (Or.inl (tag_ne hc11.2.2.2.1 hc11.1 (by decide))))))))) hc11.2.2.2.1 ?_
          refine X_aload_n dX12_readEnum_154 rfl ?_
          refine X_getfield (ci := 12) (k := 41) (v := vi (V10 x0 41)) dX12_readEnum_155 rfl (by decide) kf_RX12_269 (congrArg vi ((up_ne (Or.inl (tag_ne hc11.2.2.2.1 (hc11.2.2.2.2.1 c12).2.2.2.2.2.2.2.2.2.2.1 (by decide)))).trans ((up_ne (Or.inl (tag_ne hc11.2.2.2.1 (hc11.2.2.2.2.1 c12).2.2.2.2.2.2.2.2.1 (by decide)))).trans ((up_ne (Or.inl (tag_ne hc11.2.2.2.1 (hc11.2.2.2.2.1 c12).2.2.2.2.2.1 (by decide)))).trans ((up_ne (Or.inl (tag_ne hc11.2.2.2.1 (hc11.2.2.2.2.1 c12).1 (by decide)))).trans (up_ne (Or.inl (tag_ne hc11.2.2.2.1 hc11.1 (by decide))))))))) hc11.2.2.2.1 ?_
          refine X_iconst dX12_readEnum_158 (by decide) ?_
          refine X_iastore dX12_readEnum_159 (hc11.2.2.2.2.1 c12).2.2.2.2.2.2.2.2.2.2.2.2.1 (hc11.2.2.2.2.1 c12).2.2.2.2.2.2.1 (hc11.2.2.2.2.1 c12).2.2.2.2.2.2.2.2.2.2.2.2.2.1 ?_
          refine X_aload_n dX12_readEnum_160 rfl ?_
          refine X_getfield (ci := 12) (k := 18) (v := vr (V10 x0 18)) dX12_readEnum_161 rfl (by decide) kf_RX12_41 (congrArg vr ((up_ne (Or.inl (tag_ne hc11.2.2.2.1 (hc11.2.2.2.2.1 c12).2.2.2.2.2.2.2.2.2.2.2.2.1 (by decide)))).trans ((up_ne (Or.inl (tag_ne hc11.2.2.2.1 (hc11.2.2.2.2.1 c12).2.2.2.2.2.2.2.2.2.2.1 (by decide)))).trans ((up_ne (Or.inl (tag_ne hc11.2.2.2.1 (hc11.2.2.2.2.1 c12).2.2.2.2.2.2.2.2.1 (by decide)))).trans ((up_ne (Or.inl (tag_ne hc11.2.2.2.1 (hc11.2.2.2.2.1 c12).2.2.2.2.2.1 (by decide)))).trans ((up_ne (Or.inl (tag_ne hc11.2.2.2.1 (hc11.2.2.2.2.1 c12).1 (by decide)))).trans (up_ne (Or.inl (tag_ne hc11.2.2.2.1 hc11.1 (by decide)))))))))) hc11.2.2.2.1 ?_
          refine X_aload_n dX12_readEnum_164 rfl ?_
          refine X_getfield (ci := 12) (k := 41) (v := vi (V10 x0 41)) dX12_readEnum_165 rfl (by decide) kf_RX12_269 (congrArg vi ((up_ne (Or.inl (tag_ne hc11.2.2.2.1 (hc11.2.2.2.2.1 c12).2.2.2.2.2.2.2.2.2.2.2.2.1 (by decide)))).trans ((up_ne (Or.inl (tag_ne hc11.2.2.2.1 (hc11.2.2.2.2.1 c12).2.2.2.2.2.2.2.2.2.2.1 (by decide)))).trans ((up_ne (Or.inl (tag_ne hc11.2.2.2.1 (hc11.2.2.2.2.1 c12).2.2.2.2.2.2.2.2.1 (by decide)))).trans ((up_ne (Or.inl (tag_ne hc11.2.2.2.1 (hc11.2.2.2.2.1 c12).2.2.2.2.2.1 (by decide)))).trans ((up_ne (Or.inl (tag_ne hc11.2.2.2.1 (hc11.2.2.2.2.1 c12).1 (by decide)))).trans (up_ne (Or.inl (tag_ne hc11.2.2.2.1 hc11.1 (by decide)))))))))) hc11.2.2.2.1 ?_
          refine X_iconst dX12_readEnum_168 (by decide) ?_
          refine X_iastore dX12_readEnum_169 (hc11.2.2.2.2.1 c12).2.2.2.2.2.2.2.2.2.2.2.2.2.2.1 (hc11.2.2.2.2.1 c12).2.2.2.2.2.2.1 (hc11.2.2.2.2.1 c12).2.2.2.2.2.2.2.2.2.2.2.2.2.2.2.1 ?_
          refine X_iconst dX12_readEnum_170 (by decide) ?_
          refine X_istore_n dX12_readEnum_171 (by decide) rfl ?_
          exact (hc11.2.2.2.2.1 c12).2.2.2.2.2.2.2.2.2.2.2.2.2.2.2.2
        · exact X_ret (z := 0) dX12_readEnum_106 rfl (fun _ => trivial) (hc11.2.2.2.2.2 c12)
      · refine X_aload_n dX12_readEnum_78 rfl ?_
        refine X_aload_n dX12_readEnum_79 rfl ?_
        refine X_invV (ci := 12) (as := []) (st := [vr x0, vr x0, vi ((12 * (V5 x0 9)) + (V5 (V5 x0 10) (V5 x0 9))), vr (V5 x0 13)]) okX12_nameHere dX12_readEnum_80 km_RX12_294 rfl rfl (Nat.le_of_ble_eq_true rfl) rfl rfl (hc8.2 c9).1 (CT.imp (hc8.2 c9).2 (fun z13 S13 V13 mc13 ms13 hc14 => ?_))
        refine X_invV (ci := 12) (as := [vi z13]) (st := [vr x0, vi ((12 * (V5 x0 9)) + (V5 (V5 x0 10) (V5 x0 9))), vr (V5 x0 13)]) okX12_enumOf dX12_readEnum_83 km_RX12_311 rfl rfl (Nat.le_of_ble_eq_true rfl) rfl rfl hc14.1 (CT.imp hc14.2 (fun z15 S15 V15 mc15 ms15 hc16 => ?_))
        refine X_iconst dX12_readEnum_86 (by decide) ?_
        refine X_icmp_eq dX12_readEnum_87 (tgt := 94) rfl (fun c17 => ?_) (fun c17 => ?_)
        · refine X_iconst dX12_readEnum_94 (by decide) ?_
          refine X_invV (ci := 12) (as := [vi 0]) (st := [vi ((12 * (V5 x0 9)) + (V5 (V5 x0 10) (V5 x0 9))), vr (V5 x0 13)]) okX12_newName dX12_readEnum_95 km_RX12_314 rfl rfl (Nat.le_of_ble_eq_true rfl) rfl rfl (hc16.1 c17).1 (CT.imp (hc16.1 c17).2 (fun z18 S18 V18 mc18 ms18 hc19 => ?_))
          refine X_iastore dX12_readEnum_98 hc19.1 hc19.2.1 hc19.2.2.1 ?_
          refine X_aload_n dX12_readEnum_99 rfl ?_
          refine X_getfield (ci := 12) (k := 46) (v := vi (V18 x0 46)) dX12_readEnum_100 rfl (by decide) kf_RX12_275 (congrArg vi (up_ne (Or.inl (tag_ne hc19.2.2.2.1 hc19.1 (by decide))))) hc19.2.2.2.1 ?_
          refine X_if_le dX12_readEnum_103 (tgt := 107) rfl (fun c20 => ?_) (fun c20 => ?_)
          · refine X_aload_n dX12_readEnum_107 rfl ?_
            refine X_getfield (ci := 12) (k := 10) (v := vr (V18 x0 10)) dX12_readEnum_108 rfl (by decide) kf_RX12_16 (congrArg vr (up_ne (Or.inl (tag_ne hc19.2.2.2.1 hc19.1 (by decide))))) hc19.2.2.2.1 ?_
            refine X_aload_n dX12_readEnum_111 rfl ?_
            refine X_getfield (ci := 12) (k := 9) (v := vi (V18 x0 9)) dX12_readEnum_112 rfl (by decide) kf_RX12_263 (congrArg vi (up_ne (Or.inl (tag_ne hc19.2.2.2.1 hc19.1 (by decide))))) hc19.2.2.2.1 ?_
            refine X_dup2 dX12_readEnum_115 rfl (rv_cat _) ?_
            refine X_iaload dX12_readEnum_116 (hc19.2.2.2.2.1 c20).1 (hc19.2.2.2.2.1 c20).2.1 (hc19.2.2.2.2.1 c20).2.2.1 ?_
            refine X_iconst dX12_readEnum_117 (by decide) ?_
            refine X_iaddN dX12_readEnum_118 (hc19.2.2.2.2.1 c20).2.2.2.1 (hc19.2.2.2.2.1 c20).2.2.2.2.1 ?_
            refine X_iastore dX12_readEnum_119 (hc19.2.2.2.2.1 c20).1 (hc19.2.2.2.2.1 c20).2.1 (hc19.2.2.2.2.1 c20).2.2.1 ?_
            refine X_aload_n dX12_readEnum_120 rfl ?_
            refine X_getfield (ci := 12) (k := 14) (v := vr (V18 x0 14)) dX12_readEnum_121 rfl (by decide) kf_RX12_29 (congrArg vr ((up_ne (Or.inl (tag_ne hc19.2.2.2.1 (hc19.2.2.2.2.1 c20).1 (by decide)))).trans (up_ne (Or.inl (tag_ne hc19.2.2.2.1 hc19.1 (by decide)))))) hc19.2.2.2.1 ?_
            refine X_aload_n dX12_readEnum_124 rfl ?_
            refine X_getfield (ci := 12) (k := 41) (v := vi (V18 x0 41)) dX12_readEnum_125 rfl (by decide) kf_RX12_269 (congrArg vi ((up_ne (Or.inl (tag_ne hc19.2.2.2.1 (hc19.2.2.2.2.1 c20).1 (by decide)))).trans (up_ne (Or.inl (tag_ne hc19.2.2.2.1 hc19.1 (by decide)))))) hc19.2.2.2.1 ?_
            refine X_iconst dX12_readEnum_128 (by decide) ?_
            refine X_iastore dX12_readEnum_129 (hc19.2.2.2.2.1 c20).2.2.2.2.2.1 (hc19.2.2.2.2.1 c20).2.2.2.2.2.2.1 (hc19.2.2.2.2.1 c20).2.2.2.2.2.2.2.1 ?_
            refine X_aload_n dX12_readEnum_130 rfl ?_
            refine X_getfield (ci := 12) (k := 15) (v := vr (V18 x0 15)) dX12_readEnum_131 rfl (by decide) kf_RX12_32 (congrArg vr ((up_ne (Or.inl (tag_ne hc19.2.2.2.1 (hc19.2.2.2.2.1 c20).2.2.2.2.2.1 (by decide)))).trans ((up_ne (Or.inl (tag_ne hc19.2.2.2.1 (hc19.2.2.2.2.1 c20).1 (by decide)))).trans (up_ne (Or.inl (tag_ne hc19.2.2.2.1 hc19.1 (by decide))))))) hc19.2.2.2.1 ?_
            refine X_aload_n dX12_readEnum_134 rfl ?_
            refine X_getfield (ci := 12) (k := 41) (v := vi (V18 x0 41)) dX12_readEnum_135 rfl (by decide) kf_RX12_269 (congrArg vi ((up_ne (Or.inl (tag_ne hc19.2.2.2.1 (hc19.2.2.2.2.1 c20).2.2.2.2.2.1 (by decide)))).trans ((up_ne (Or.inl (tag_ne hc19.2.2.2.1 (hc19.2.2.2.2.1 c20).1 (by decide)))).trans (up_ne (Or.inl (tag_ne hc19.2.2.2.1 hc19.1 (by decide))))))) hc19.2.2.2.1 ?_
            refine X_iconst dX12_readEnum_138 (by decide) ?_
            refine X_iastore dX12_readEnum_139 (hc19.2.2.2.2.1 c20).2.2.2.2.2.2.2.2.1 (hc19.2.2.2.2.1 c20).2.2.2.2.2.2.1 (hc19.2.2.2.2.1 c20).2.2.2.2.2.2.2.2.2.1 ?_
            refine X_aload_n dX12_readEnum_140 rfl ?_
            refine X_getfield (ci := 12) (k := 16) (v := vr (V18 x0 16)) dX12_readEnum_141 rfl (by decide) kf_RX12_35 (congrArg vr ((up_ne (Or.inl (tag_ne hc19.2.2.2.1 (hc19.2.2.2.2.1 c20).2.2.2.2.2.2.2.2.1 (by decide)))).trans ((up_ne (Or.inl (tag_ne hc19.2.2.2.1 (hc19.2.2.2.2.1 c20).2.2.2.2.2.1 (by decide)))).trans ((up_ne (Or.inl (tag_ne hc19.2.2.2.1 (hc19.2.2.2.2.1 c20).1 (by decide)))).trans (up_ne (Or.inl (tag_ne hc19.2.2.2.1 hc19.1 (by decide)))))))) hc19.2.2.2.1 ?_
            refine X_aload_n dX12_readEnum_144 rfl ?_
            refine X_getfield (ci := 12) (k := 41) (v := vi (V18 x0 41)) dX12_readEnum_145 rfl (by decide) kf_RX12_269 (congrArg vi ((up_ne (Or.inl (tag_ne hc19.2.2.2.1 (hc19.2.2.2.2.1 c20).2.2.2.2.2.2.2.2.1 (by decide)))).trans ((up_ne (Or.inl (tag_ne hc19.2.2.2.1 (hc19.2.2.2.2.1 c20).2.2.2.2.2.1 (by decide)))).trans ((up_ne (Or.inl (tag_ne hc19.2.2.2.1 (hc19.2.2.2.2.1 c20).1 (by decide)))).trans (up_ne (Or.inl (tag_ne hc19.2.2.2.1 hc19.1 (by decide)))))))) hc19.2.2.2.1 ?_
            refine X_iconst dX12_readEnum_148 (by decide) ?_
            refine X_iastore dX12_readEnum_149 (hc19.2.2.2.2.1 c20).2.2.2.2.2.2.2.2.2.2.1 (hc19.2.2.2.2.1 c20).2.2.2.2.2.2.1 (hc19.2.2.2.2.1 c20).2.2.2.2.2.2.2.2.2.2.2.1 ?_
            refine X_aload_n dX12_readEnum_150 rfl ?_
            refine X_getfield (ci := 12) (k := 17) (v := vr (V18 x0 17)) dX12_readEnum_151 rfl (by decide) kf_RX12_38 (congrArg vr ((up_ne (Or.inl (tag_ne hc19.2.2.2.1 (hc19.2.2.2.2.1 c20).2.2.2.2.2.2.2.2.2.2.1 (by decide)))).trans ((up_ne (Or.inl (tag_ne hc19.2.2.2.1 (hc19.2.2.2.2.1 c20).2.2.2.2.2.2.2.2.1 (by decide)))).trans ((up_ne (Or.inl (tag_ne hc19.2.2.2.1 (hc19.2.2.2.2.1 c20).2.2.2.2.2.1 (by decide)))).trans ((up_ne (Or.inl (tag_ne hc19.2.2.2.1 (hc19.2.2.2.2.1 c20).1 (by decide)))).trans (up_ne (Or.inl (tag_ne hc19.2.2.2.1 hc19.1 (by decide))))))))) hc19.2.2.2.1 ?_
            refine X_aload_n dX12_readEnum_154 rfl ?_
            refine X_getfield (ci := 12) (k := 41) (v := vi (V18 x0 41)) dX12_readEnum_155 rfl (by decide) kf_RX12_269 (congrArg vi ((up_ne (Or.inl (tag_ne hc19.2.2.2.1 (hc19.2.2.2.2.1 c20).2.2.2.2.2.2.2.2.2.2.1 (by decide)))).trans ((up_ne (Or.inl (tag_ne hc19.2.2.2.1 (hc19.2.2.2.2.1 c20).2.2.2.2.2.2.2.2.1 (by decide)))).trans ((up_ne (Or.inl (tag_ne hc19.2.2.2.1 (hc19.2.2.2.2.1 c20).2.2.2.2.2.1 (by decide)))).trans ((up_ne (Or.inl (tag_ne hc19.2.2.2.1 (hc19.2.2.2.2.1 c20).1 (by decide)))).trans (up_ne (Or.inl (tag_ne hc19.2.2.2.1 hc19.1 (by decide))))))))) hc19.2.2.2.1 ?_
            refine X_iconst dX12_readEnum_158 (by decide) ?_
            refine X_iastore dX12_readEnum_159 (hc19.2.2.2.2.1 c20).2.2.2.2.2.2.2.2.2.2.2.2.1 (hc19.2.2.2.2.1 c20).2.2.2.2.2.2.1 (hc19.2.2.2.2.1 c20).2.2.2.2.2.2.2.2.2.2.2.2.2.1 ?_
            refine X_aload_n dX12_readEnum_160 rfl ?_
            refine X_getfield (ci := 12) (k := 18) (v := vr (V18 x0 18)) dX12_readEnum_161 rfl (by decide) kf_RX12_41 (congrArg vr ((up_ne (Or.inl (tag_ne hc19.2.2.2.1 (hc19.2.2.2.2.1 c20).2.2.2.2.2.2.2.2.2.2.2.2.1 (by decide)))).trans ((up_ne (Or.inl (tag_ne hc19.2.2.2.1 (hc19.2.2.2.2.1 c20).2.2.2.2.2.2.2.2.2.2.1 (by decide)))).trans ((up_ne (Or.inl (tag_ne hc19.2.2.2.1 (hc19.2.2.2.2.1 c20).2.2.2.2.2.2.2.2.1 (by decide)))).trans ((up_ne (Or.inl (tag_ne hc19.2.2.2.1 (hc19.2.2.2.2.1 c20).2.2.2.2.2.1 (by decide)))).trans ((up_ne (Or.inl (tag_ne hc19.2.2.2.1 (hc19.2.2.2.2.1 c20).1 (by decide)))).trans (up_ne (Or.inl (tag_ne hc19.2.2.2.1 hc19.1 (by decide)))))))))) hc19.2.2.2.1 ?_
            refine X_aload_n dX12_readEnum_164 rfl ?_
            refine X_getfield (ci := 12) (k := 41) (v := vi (V18 x0 41)) dX12_readEnum_165 rfl (by decide) kf_RX12_269 (congrArg vi ((up_ne (Or.inl (tag_ne hc19.2.2.2.1 (hc19.2.2.2.2.1 c20).2.2.2.2.2.2.2.2.2.2.2.2.1 (by decide)))).trans ((up_ne (Or.inl (tag_ne hc19.2.2.2.1 (hc19.2.2.2.2.1 c20).2.2.2.2.2.2.2.2.2.2.1 (by decide)))).trans ((up_ne (Or.inl (tag_ne hc19.2.2.2.1 (hc19.2.2.2.2.1 c20).2.2.2.2.2.2.2.2.1 (by decide)))).trans ((up_ne (Or.inl (tag_ne hc19.2.2.2.1 (hc19.2.2.2.2.1 c20).2.2.2.2.2.1 (by decide)))).trans ((up_ne (Or.inl (tag_ne hc19.2.2.2.1 (hc19.2.2.2.2.1 c20).1 (by decide)))).trans (up_ne (Or.inl (tag_ne hc19.2.2.2.1 hc19.1 (by decide)))))))))) hc19.2.2.2.1 ?_
            refine X_iconst dX12_readEnum_168 (by decide) ?_
            refine X_iastore dX12_readEnum_169 (hc19.2.2.2.2.1 c20).2.2.2.2.2.2.2.2.2.2.2.2.2.2.1 (hc19.2.2.2.2.1 c20).2.2.2.2.2.2.1 (hc19.2.2.2.2.1 c20).2.2.2.2.2.2.2.2.2.2.2.2.2.2.2.1 ?_
            refine X_iconst dX12_readEnum_170 (by decide) ?_
            refine X_istore_n dX12_readEnum_171 (by decide) rfl ?_
            exact (hc19.2.2.2.2.1 c20).2.2.2.2.2.2.2.2.2.2.2.2.2.2.2.2
          · exact X_ret (z := 0) dX12_readEnum_106 rfl (fun _ => trivial) (hc19.2.2.2.2.2 c20)
        · refine X_iconst dX12_readEnum_90 (by decide) ?_
          refine X_goto dX12_readEnum_91 (tgt := 95) rfl ?_
          refine X_invV (ci := 12) (as := [vi 1]) (st := [vi ((12 * (V5 x0 9)) + (V5 (V5 x0 10) (V5 x0 9))), vr (V5 x0 13)]) okX12_newName dX12_readEnum_95 km_RX12_314 rfl rfl (Nat.le_of_ble_eq_true rfl) rfl rfl (hc16.2 c17).1 (CT.imp (hc16.2 c17).2 (fun z21 S21 V21 mc21 ms21 hc22 => ?_))
          refine X_iastore dX12_readEnum_98 hc22.1 hc22.2.1 hc22.2.2.1 ?_
          refine X_aload_n dX12_readEnum_99 rfl ?_
          refine X_getfield (ci := 12) (k := 46) (v := vi (V21 x0 46)) dX12_readEnum_100 rfl (by decide) kf_RX12_275 (congrArg vi (up_ne (Or.inl (tag_ne hc22.2.2.2.1 hc22.1 (by decide))))) hc22.2.2.2.1 ?_
          refine X_if_le dX12_readEnum_103 (tgt := 107) rfl (fun c23 => ?_) (fun c23 => ?_)
          · refine X_aload_n dX12_readEnum_107 rfl ?_
            refine X_getfield (ci := 12) (k := 10) (v := vr (V21 x0 10)) dX12_readEnum_108 rfl (by decide) kf_RX12_16 (congrArg vr (up_ne (Or.inl (tag_ne hc22.2.2.2.1 hc22.1 (by decide))))) hc22.2.2.2.1 ?_
            refine X_aload_n dX12_readEnum_111 rfl ?_
            refine X_getfield (ci := 12) (k := 9) (v := vi (V21 x0 9)) dX12_readEnum_112 rfl (by decide) kf_RX12_263 (congrArg vi (up_ne (Or.inl (tag_ne hc22.2.2.2.1 hc22.1 (by decide))))) hc22.2.2.2.1 ?_
            refine X_dup2 dX12_readEnum_115 rfl (rv_cat _) ?_
            refine X_iaload dX12_readEnum_116 (hc22.2.2.2.2.1 c23).1 (hc22.2.2.2.2.1 c23).2.1 (hc22.2.2.2.2.1 c23).2.2.1 ?_
            refine X_iconst dX12_readEnum_117 (by decide) ?_
            refine X_iaddN dX12_readEnum_118 (hc22.2.2.2.2.1 c23).2.2.2.1 (hc22.2.2.2.2.1 c23).2.2.2.2.1 ?_
            refine X_iastore dX12_readEnum_119 (hc22.2.2.2.2.1 c23).1 (hc22.2.2.2.2.1 c23).2.1 (hc22.2.2.2.2.1 c23).2.2.1 ?_
            refine X_aload_n dX12_readEnum_120 rfl ?_
            refine X_getfield (ci := 12) (k := 14) (v := vr (V21 x0 14)) dX12_readEnum_121 rfl (by decide) kf_RX12_29 (congrArg vr ((up_ne (Or.inl (tag_ne hc22.2.2.2.1 (hc22.2.2.2.2.1 c23).1 (by decide)))).trans (up_ne (Or.inl (tag_ne hc22.2.2.2.1 hc22.1 (by decide)))))) hc22.2.2.2.1 ?_
            refine X_aload_n dX12_readEnum_124 rfl ?_
            refine X_getfield (ci := 12) (k := 41) (v := vi (V21 x0 41)) dX12_readEnum_125 rfl (by decide) kf_RX12_269 (congrArg vi ((up_ne (Or.inl (tag_ne hc22.2.2.2.1 (hc22.2.2.2.2.1 c23).1 (by decide)))).trans (up_ne (Or.inl (tag_ne hc22.2.2.2.1 hc22.1 (by decide)))))) hc22.2.2.2.1 ?_
            refine X_iconst dX12_readEnum_128 (by decide) ?_
            refine X_iastore dX12_readEnum_129 (hc22.2.2.2.2.1 c23).2.2.2.2.2.1 (hc22.2.2.2.2.1 c23).2.2.2.2.2.2.1 (hc22.2.2.2.2.1 c23).2.2.2.2.2.2.2.1 ?_
            refine X_aload_n dX12_readEnum_130 rfl ?_
            refine X_getfield (ci := 12) (k := 15) (v := vr (V21 x0 15)) dX12_readEnum_131 rfl (by decide) kf_RX12_32 (congrArg vr ((up_ne (Or.inl (tag_ne hc22.2.2.2.1 (hc22.2.2.2.2.1 c23).2.2.2.2.2.1 (by decide)))).trans ((up_ne (Or.inl (tag_ne hc22.2.2.2.1 (hc22.2.2.2.2.1 c23).1 (by decide)))).trans (up_ne (Or.inl (tag_ne hc22.2.2.2.1 hc22.1 (by decide))))))) hc22.2.2.2.1 ?_
            refine X_aload_n dX12_readEnum_134 rfl ?_
            refine X_getfield (ci := 12) (k := 41) (v := vi (V21 x0 41)) dX12_readEnum_135 rfl (by decide) kf_RX12_269 (congrArg vi ((up_ne (Or.inl (tag_ne hc22.2.2.2.1 (hc22.2.2.2.2.1 c23).2.2.2.2.2.1 (by decide)))).trans ((up_ne (Or.inl (tag_ne hc22.2.2.2.1 (hc22.2.2.2.2.1 c23).1 (by decide)))).trans (up_ne (Or.inl (tag_ne hc22.2.2.2.1 hc22.1 (by decide))))))) hc22.2.2.2.1 ?_
            refine X_iconst dX12_readEnum_138 (by decide) ?_
            refine X_iastore dX12_readEnum_139 (hc22.2.2.2.2.1 c23).2.2.2.2.2.2.2.2.1 (hc22.2.2.2.2.1 c23).2.2.2.2.2.2.1 (hc22.2.2.2.2.1 c23).2.2.2.2.2.2.2.2.2.1 ?_
            refine X_aload_n dX12_readEnum_140 rfl ?_
            refine X_getfield (ci := 12) (k := 16) (v := vr (V21 x0 16)) dX12_readEnum_141 rfl (by decide) kf_RX12_35 (congrArg vr ((up_ne (Or.inl (tag_ne hc22.2.2.2.1 (hc22.2.2.2.2.1 c23).2.2.2.2.2.2.2.2.1 (by decide)))).trans ((up_ne (Or.inl (tag_ne hc22.2.2.2.1 (hc22.2.2.2.2.1 c23).2.2.2.2.2.1 (by decide)))).trans ((up_ne (Or.inl (tag_ne hc22.2.2.2.1 (hc22.2.2.2.2.1 c23).1 (by decide)))).trans (up_ne (Or.inl (tag_ne hc22.2.2.2.1 hc22.1 (by decide)))))))) hc22.2.2.2.1 ?_
            refine X_aload_n dX12_readEnum_144 rfl ?_
            refine X_getfield (ci := 12) (k := 41) (v := vi (V21 x0 41)) dX12_readEnum_145 rfl (by decide) kf_RX12_269 (congrArg vi ((up_ne (Or.inl (tag_ne hc22.2.2.2.1 (hc22.2.2.2.2.1 c23).2.2.2.2.2.2.2.2.1 (by decide)))).trans ((up_ne (Or.inl (tag_ne hc22.2.2.2.1 (hc22.2.2.2.2.1 c23).2.2.2.2.2.1 (by decide)))).trans ((up_ne (Or.inl (tag_ne hc22.2.2.2.1 (hc22.2.2.2.2.1 c23).1 (by decide)))).trans (up_ne (Or.inl (tag_ne hc22.2.2.2.1 hc22.1 (by decide)))))))) hc22.2.2.2.1 ?_
            refine X_iconst dX12_readEnum_148 (by decide) ?_
            refine X_iastore dX12_readEnum_149 (hc22.2.2.2.2.1 c23).2.2.2.2.2.2.2.2.2.2.1 (hc22.2.2.2.2.1 c23).2.2.2.2.2.2.1 (hc22.2.2.2.2.1 c23).2.2.2.2.2.2.2.2.2.2.2.1 ?_
            refine X_aload_n dX12_readEnum_150 rfl ?_
            refine X_getfield (ci := 12) (k := 17) (v := vr (V21 x0 17)) dX12_readEnum_151 rfl (by decide) kf_RX12_38 (congrArg vr ((up_ne (Or.inl (tag_ne hc22.2.2.2.1 (hc22.2.2.2.2.1 c23).2.2.2.2.2.2.2.2.2.2.1 (by decide)))).trans ((up_ne (Or.inl (tag_ne hc22.2.2.2.1 (hc22.2.2.2.2.1 c23).2.2.2.2.2.2.2.2.1 (by decide)))).trans ((up_ne (Or.inl (tag_ne hc22.2.2.2.1 (hc22.2.2.2.2.1 c23).2.2.2.2.2.1 (by decide)))).trans ((up_ne (Or.inl (tag_ne hc22.2.2.2.1 (hc22.2.2.2.2.1 c23).1 (by decide)))).trans (up_ne (Or.inl (tag_ne hc22.2.2.2.1 hc22.1 (by decide))))))))) hc22.2.2.2.1 ?_
            refine X_aload_n dX12_readEnum_154 rfl ?_
            refine X_getfield (ci := 12) (k := 41) (v := vi (V21 x0 41)) dX12_readEnum_155 rfl (by decide) kf_RX12_269 (congrArg vi ((up_ne (Or.inl (tag_ne hc22.2.2.2.1 (hc22.2.2.2.2.1 c23).2.2.2.2.2.2.2.2.2.2.1 (by decide)))).trans ((up_ne (Or.inl (tag_ne hc22.2.2.2.1 (hc22.2.2.2.2.1 c23).2.2.2.2.2.2.2.2.1 (by decide)))).trans ((up_ne (Or.inl (tag_ne hc22.2.2.2.1 (hc22.2.2.2.2.1 c23).2.2.2.2.2.1 (by decide)))).trans ((up_ne (Or.inl (tag_ne hc22.2.2.2.1 (hc22.2.2.2.2.1 c23).1 (by decide)))).trans (up_ne (Or.inl (tag_ne hc22.2.2.2.1 hc22.1 (by decide))))))))) hc22.2.2.2.1 ?_
            refine X_iconst dX12_readEnum_158 (by decide) ?_
            refine X_iastore dX12_readEnum_159 (hc22.2.2.2.2.1 c23).2.2.2.2.2.2.2.2.2.2.2.2.1 (hc22.2.2.2.2.1 c23).2.2.2.2.2.2.1 (hc22.2.2.2.2.1 c23).2.2.2.2.2.2.2.2.2.2.2.2.2.1 ?_
            refine X_aload_n dX12_readEnum_160 rfl ?_
            refine X_getfield (ci := 12) (k := 18) (v := vr (V21 x0 18)) dX12_readEnum_161 rfl (by decide) kf_RX12_41 (congrArg vr ((up_ne (Or.inl (tag_ne hc22.2.2.2.1 (hc22.2.2.2.2.1 c23).2.2.2.2.2.2.2.2.2.2.2.2.1 (by decide)))).trans ((up_ne (Or.inl (tag_ne hc22.2.2.2.1 (hc22.2.2.2.2.1 c23).2.2.2.2.2.2.2.2.2.2.1 (by decide)))).trans ((up_ne (Or.inl (tag_ne hc22.2.2.2.1 (hc22.2.2.2.2.1 c23).2.2.2.2.2.2.2.2.1 (by decide)))).trans ((up_ne (Or.inl (tag_ne hc22.2.2.2.1 (hc22.2.2.2.2.1 c23).2.2.2.2.2.1 (by decide)))).trans ((up_ne (Or.inl (tag_ne hc22.2.2.2.1 (hc22.2.2.2.2.1 c23).1 (by decide)))).trans (up_ne (Or.inl (tag_ne hc22.2.2.2.1 hc22.1 (by decide)))))))))) hc22.2.2.2.1 ?_
            refine X_aload_n dX12_readEnum_164 rfl ?_
            refine X_getfield (ci := 12) (k := 41) (v := vi (V21 x0 41)) dX12_readEnum_165 rfl (by decide) kf_RX12_269 (congrArg vi ((up_ne (Or.inl (tag_ne hc22.2.2.2.1 (hc22.2.2.2.2.1 c23).2.2.2.2.2.2.2.2.2.2.2.2.1 (by decide)))).trans ((up_ne (Or.inl (tag_ne hc22.2.2.2.1 (hc22.2.2.2.2.1 c23).2.2.2.2.2.2.2.2.2.2.1 (by decide)))).trans ((up_ne (Or.inl (tag_ne hc22.2.2.2.1 (hc22.2.2.2.2.1 c23).2.2.2.2.2.2.2.2.1 (by decide)))).trans ((up_ne (Or.inl (tag_ne hc22.2.2.2.1 (hc22.2.2.2.2.1 c23).2.2.2.2.2.1 (by decide)))).trans ((up_ne (Or.inl (tag_ne hc22.2.2.2.1 (hc22.2.2.2.2.1 c23).1 (by decide)))).trans (up_ne (Or.inl (tag_ne hc22.2.2.2.1 hc22.1 (by decide)))))))))) hc22.2.2.2.1 ?_
            refine X_iconst dX12_readEnum_168 (by decide) ?_
            refine X_iastore dX12_readEnum_169 (hc22.2.2.2.2.1 c23).2.2.2.2.2.2.2.2.2.2.2.2.2.2.1 (hc22.2.2.2.2.1 c23).2.2.2.2.2.2.1 (hc22.2.2.2.2.1 c23).2.2.2.2.2.2.2.2.2.2.2.2.2.2.2.1 ?_
            refine X_iconst dX12_readEnum_170 (by decide) ?_
            refine X_istore_n dX12_readEnum_171 (by decide) rfl ?_
            exact (hc22.2.2.2.2.1 c23).2.2.2.2.2.2.2.2.2.2.2.2.2.2.2.2
          · exact X_ret (z := 0) dX12_readEnum_106 rfl (fun _ => trivial) (hc22.2.2.2.2.2 c23)
    · refine X_aload_n dX12_readEnum_30 rfl ?_
      refine X_iconst dX12_readEnum_31 (by decide) ?_
      refine X_invV (ci := 12) (as := [vi 5]) (st := []) okX12_fault dX12_readEnum_32 km_RX12_288 rfl rfl (Nat.le_of_ble_eq_true rfl) rfl rfl (hc2.1 c3).1 (CT.imp ((hc2.1 c3).2.2.2.2.2 c4) (fun z24 S24 V24 mc24 ms24 hc25 => ?_))
      refine X_istore_n dX12_readEnum_35 (by decide) rfl ?_
      exact X_ret (z := 0) dX12_readEnum_36 rfl (fun _ => trivial) hc25
  · refine X_aload_n dX12_readEnum_9 rfl ?_
    refine X_iconst dX12_readEnum_10 (by decide) ?_
    refine X_invV (ci := 12) (as := [vi 2]) (st := []) okX12_fault dX12_readEnum_11 km_RX12_288 rfl rfl (Nat.le_of_ble_eq_true rfl) rfl rfl (hc2.2 c3).1 (CT.imp (hc2.2 c3).2 (fun z26 S26 V26 mc26 ms26 hc27 => ?_))
    refine X_istore_n dX12_readEnum_14 (by decide) rfl ?_
    exact X_ret (z := 0) dX12_readEnum_15 rfl (fun _ => trivial) hc27
set_option maxRecDepth 10000 in
theorem vX12_readEnum_172 {l : Launch} {G : GT} {Q : Int → Sh → Mem → Prop} {d : Nat} {S : Sh} {V : Mem} {mc ms : Nat} {x0 x1 : Int} (h : (4 ≤ x1 → S.1 x0 = 13 ∧ CT l G bX12_next d mc ms [vr x0] S V (fun z2 S2 V2 mc2 ms2 => S2.1 x0 = 13 ∧ CT l G bX12_sign d mc2 ms2 [vr x0, vi 123] S2 V2 (fun z4 S4 V4 mc4 ms4 => S4.1 x0 = 13 ∧ CT l G bX12_readConstant d mc4 ms4 [vr x0] S4 V4 (fun z6 S6 V6 mc6 ms6 => XJ l G bX12_readEnum Q d 211 [vr x0, vi x1] [] S6 V6 mc6 ms6)))) ∧ (¬ (4 ≤ x1) → S.1 x0 = 13 ∧ -2147483648 ≤ 4 * (V x0 41) ∧ 4 * (V x0 41) ≤ 2147483647 ∧ -2147483648 ≤ (4 * (V x0 41)) + x1 ∧ (4 * (V x0 41)) + x1 ≤ 2147483647 ∧ S.1 (V x0 19) = 20 ∧ 0 ≤ ((4 * (V x0 41)) + x1) ∧ ((4 * (V x0 41)) + x1) < S.2.1 (V x0 19) ∧ -2147483648 ≤ x1 + 1 ∧ x1 + 1 ≤ 2147483647 ∧ XJ l G bX12_readEnum Q d 172 [vr x0, vi (x1 + 1)] [] S (up V (V x0 19) ((4 * (V x0 41)) + x1) (-1)) mc ms)) : XJ l G bX12_readEnum Q d 172 [vr x0, vi x1] [] S V mc ms := by
  refine X_iload_n dX12_readEnum_172 rfl ?_
  refine X_iconst dX12_readEnum_173 (by decide) ?_
  refine X_icmp_ge dX12_readEnum_174 (tgt := 197) rfl (fun c1 => ?_) (fun c1 => ?_)
  · refine X_aload_n dX12_readEnum_197 rfl ?_
    refine X_invV (ci := 12) (as := []) (st := []) okX12_next dX12_readEnum_198 km_RX12_285 rfl rfl (Nat.le_of_ble_eq_true rfl) rfl rfl (h.1 c1).1 (CT.imp (h.1 c1).2 (fun z2 S2 V2 mc2 ms2 hc3 => ?_))
    refine X_aload_n dX12_readEnum_201 rfl ?_
    refine X_bipush dX12_readEnum_202 (by decide) (by decide) ?_
    refine X_invV (ci := 12) (as := [vi 123]) (st := []) okX12_sign dX12_readEnum_204 km_RX12_318 rfl rfl (Nat.le_of_ble_eq_true rfl) rfl rfl hc3.1 (CT.imp hc3.2 (fun z4 S4 V4 mc4 ms4 hc5 => ?_))
    refine X_aload_n dX12_readEnum_207 rfl ?_
    refine X_invV (ci := 12) (as := []) (st := []) okX12_readConstant dX12_readEnum_208 km_RX12_322 rfl rfl (Nat.le_of_ble_eq_true rfl) rfl rfl hc5.1 (CT.imp hc5.2 (fun z6 S6 V6 mc6 ms6 hc7 => ?_))
    exact hc7
  · refine X_aload_n dX12_readEnum_177 rfl ?_
    refine X_getfield (ci := 12) (k := 19) (v := vr (V x0 19)) dX12_readEnum_178 rfl (by decide) kf_RX12_44 rfl (h.2 c1).1 ?_
    refine X_iconst dX12_readEnum_181 (by decide) ?_
    refine X_aload_n dX12_readEnum_182 rfl ?_
    refine X_getfield (ci := 12) (k := 41) (v := vi (V x0 41)) dX12_readEnum_183 rfl (by decide) kf_RX12_269 rfl (h.2 c1).1 ?_
    refine X_imulN dX12_readEnum_186 (h.2 c1).2.1 (h.2 c1).2.2.1 ?_
    refine X_iload_n dX12_readEnum_187 rfl ?_
    refine X_iaddN dX12_readEnum_188 (h.2 c1).2.2.2.1 (h.2 c1).2.2.2.2.1 ?_
    refine X_iconst dX12_readEnum_189 (by decide) ?_
    refine X_iastore dX12_readEnum_190 (h.2 c1).2.2.2.2.2.1 (h.2 c1).2.2.2.2.2.2.1 (h.2 c1).2.2.2.2.2.2.2.1 ?_
    refine X_iincN dX12_readEnum_191 rfl (by decide) rfl (e := x1 + 1) rfl (h.2 c1).2.2.2.2.2.2.2.2.1 (h.2 c1).2.2.2.2.2.2.2.2.2.1 ?_
    refine X_goto dX12_readEnum_194 (tgt := 172) rfl ?_
    exact (h.2 c1).2.2.2.2.2.2.2.2.2.2
set_option maxRecDepth 10000 in
theorem vX12_readEnum_211 {l : Launch} {G : GT} {Q : Int → Sh → Mem → Prop} {d : Nat} {S : Sh} {V : Mem} {mc ms : Nat} {x0 x1 : Int} (h : S.1 x0 = 13 ∧ ((V x0 46) ≠ 0 → CT l G bX12_sign d mc ms [vr x0, vi 59] S V (fun z2 S2 V2 mc2 ms2 => XJ l G bX12_readEnum Q d 244 [vr x0, vi x1] [] S2 V2 mc2 ms2)) ∧ (¬ ((V x0 46) ≠ 0) → CT l G bX12_isSign d mc ms [vr x0, vi 44] S V (fun z4 S4 V4 mc4 ms4 => (z4 = 0 → S4.1 x0 = 13 ∧ CT l G bX12_sign d mc4 ms4 [vr x0, vi 59] S4 V4 (fun z7 S7 V7 mc7 ms7 => XJ l G bX12_readEnum Q d 244 [vr x0, vi x1] [] S7 V7 mc7 ms7)) ∧ (¬ (z4 = 0) → S4.1 x0 = 13 ∧ CT l G bX12_next d mc4 ms4 [vr x0] S4 V4 (fun z9 S9 V9 mc9 ms9 => S9.1 x0 = 13 ∧ CT l G bX12_readConstant d mc9 ms9 [vr x0] S9 V9 (fun z11 S11 V11 mc11 ms11 => XJ l G bX12_readEnum Q d 211 [vr x0, vi x1] [] S11 V11 mc11 ms11)))))) : XJ l G bX12_readEnum Q d 211 [vr x0, vi x1] [] S V mc ms := by
  refine X_aload_n dX12_readEnum_211 rfl ?_
  refine X_getfield (ci := 12) (k := 46) (v := vi (V x0 46)) dX12_readEnum_212 rfl (by decide) kf_RX12_275 rfl h.1 ?_
  refine X_if_ne dX12_readEnum_215 (tgt := 238) rfl (fun c1 => ?_) (fun c1 => ?_)
  · refine X_aload_n dX12_readEnum_238 rfl ?_
    refine X_bipush dX12_readEnum_239 (by decide) (by decide) ?_
    refine X_invV (ci := 12) (as := [vi 59]) (st := []) okX12_sign dX12_readEnum_241 km_RX12_318 rfl rfl (Nat.le_of_ble_eq_true rfl) rfl rfl h.1 (CT.imp (h.2.1 c1) (fun z2 S2 V2 mc2 ms2 hc3 => ?_))
    exact hc3
  · refine X_aload_n dX12_readEnum_218 rfl ?_
    refine X_bipush dX12_readEnum_219 (by decide) (by decide) ?_
    refine X_invV (ci := 12) (as := [vi 44]) (st := []) okX12_isSign dX12_readEnum_221 km_RX12_281 rfl rfl (Nat.le_of_ble_eq_true rfl) rfl rfl h.1 (CT.imp (h.2.2 c1) (fun z4 S4 V4 mc4 ms4 hc5 => ?_))
    refine X_if_eq dX12_readEnum_224 (tgt := 238) rfl (fun c6 => ?_) (fun c6 => ?_)
    · refine X_aload_n dX12_readEnum_238 rfl ?_
      refine X_bipush dX12_readEnum_239 (by decide) (by decide) ?_
      refine X_invV (ci := 12) (as := [vi 59]) (st := []) okX12_sign dX12_readEnum_241 km_RX12_318 rfl rfl (Nat.le_of_ble_eq_true rfl) rfl rfl (hc5.1 c6).1 (CT.imp (hc5.1 c6).2 (fun z7 S7 V7 mc7 ms7 hc8 => ?_))
      exact hc8
    · refine X_aload_n dX12_readEnum_227 rfl ?_
      refine X_invV (ci := 12) (as := []) (st := []) okX12_next dX12_readEnum_228 km_RX12_285 rfl rfl (Nat.le_of_ble_eq_true rfl) rfl rfl (hc5.2 c6).1 (CT.imp (hc5.2 c6).2 (fun z9 S9 V9 mc9 ms9 hc10 => ?_))
      refine X_aload_n dX12_readEnum_231 rfl ?_
      refine X_invV (ci := 12) (as := []) (st := []) okX12_readConstant dX12_readEnum_232 km_RX12_322 rfl rfl (Nat.le_of_ble_eq_true rfl) rfl rfl hc10.1 (CT.imp hc10.2 (fun z11 S11 V11 mc11 ms11 hc12 => ?_))
      refine X_goto dX12_readEnum_235 (tgt := 211) rfl ?_
      exact hc12
set_option maxRecDepth 10000 in
theorem vX12_readEnum_244 {l : Launch} {G : GT} {Q : Int → Sh → Mem → Prop} {d : Nat} {S : Sh} {V : Mem} {mc ms : Nat} {x0 x1 : Int} (h : S.1 x0 = 13 ∧ ((V x0 46) ≠ 0 → CT l G bX12_sign d mc ms [vr x0, vi 125] S V (fun z2 S2 V2 mc2 ms2 => Q 0 S2 V2)) ∧ (¬ ((V x0 46) ≠ 0) → CT l G bX12_isSign d mc ms [vr x0, vi 125] S V (fun z4 S4 V4 mc4 ms4 => (z4 ≠ 0 → S4.1 x0 = 13 ∧ CT l G bX12_sign d mc4 ms4 [vr x0, vi 125] S4 V4 (fun z7 S7 V7 mc7 ms7 => Q 0 S7 V7)) ∧ (¬ (z4 ≠ 0) → S4.1 x0 = 13 ∧ CT l G bX12_readMember d mc4 ms4 [vr x0] S4 V4 (fun z9 S9 V9 mc9 ms9 => XJ l G bX12_readEnum Q d 244 [vr x0, vi x1] [] S9 V9 mc9 ms9))))) : XJ l G bX12_readEnum Q d 244 [vr x0, vi x1] [] S V mc ms := by
  refine X_aload_n dX12_readEnum_244 rfl ?_
  refine X_getfield (ci := 12) (k := 46) (v := vi (V x0 46)) dX12_readEnum_245 rfl (by decide) kf_RX12_275 rfl h.1 ?_
  refine X_if_ne dX12_readEnum_248 (tgt := 267) rfl (fun c1 => ?_) (fun c1 => ?_)
  · refine X_aload_n dX12_readEnum_267 rfl ?_
    refine X_bipush dX12_readEnum_268 (by decide) (by decide) ?_
    refine X_invV (ci := 12) (as := [vi 125]) (st := []) okX12_sign dX12_readEnum_270 km_RX12_318 rfl rfl (Nat.le_of_ble_eq_true rfl) rfl rfl h.1 (CT.imp (h.2.1 c1) (fun z2 S2 V2 mc2 ms2 hc3 => ?_))
    exact X_ret (z := 0) dX12_readEnum_273 rfl (fun _ => trivial) hc3
  · refine X_aload_n dX12_readEnum_251 rfl ?_
    refine X_bipush dX12_readEnum_252 (by decide) (by decide) ?_
    refine X_invV (ci := 12) (as := [vi 125]) (st := []) okX12_isSign dX12_readEnum_254 km_RX12_281 rfl rfl (Nat.le_of_ble_eq_true rfl) rfl rfl h.1 (CT.imp (h.2.2 c1) (fun z4 S4 V4 mc4 ms4 hc5 => ?_))
    refine X_if_ne dX12_readEnum_257 (tgt := 267) rfl (fun c6 => ?_) (fun c6 => ?_)
    · refine X_aload_n dX12_readEnum_267 rfl ?_
      refine X_bipush dX12_readEnum_268 (by decide) (by decide) ?_
      refine X_invV (ci := 12) (as := [vi 125]) (st := []) okX12_sign dX12_readEnum_270 km_RX12_318 rfl rfl (Nat.le_of_ble_eq_true rfl) rfl rfl (hc5.1 c6).1 (CT.imp (hc5.1 c6).2 (fun z7 S7 V7 mc7 ms7 hc8 => ?_))
      exact X_ret (z := 0) dX12_readEnum_273 rfl (fun _ => trivial) hc8
    · refine X_aload_n dX12_readEnum_260 rfl ?_
      refine X_invV (ci := 12) (as := []) (st := []) okX12_readMember dX12_readEnum_261 km_RX12_325 rfl rfl (Nat.le_of_ble_eq_true rfl) rfl rfl (hc5.2 c6).1 (CT.imp (hc5.2 c6).2 (fun z9 S9 V9 mc9 ms9 hc10 => ?_))
      refine X_goto dX12_readEnum_264 (tgt := 244) rfl ?_
      exact hc10
theorem qX12_readEnum {l : Launch} {G : GT} {Q : Int → Sh → Mem → Prop} {d : Nat} {S : Sh} {V : Mem} {mc ms : Nat} {x0 : Int} (h : 0 ≤ x0 → XJ l G bX12_readEnum Q d 0 [vr x0, vu] [] S V mc ms) : Ct l G bX12_readEnum Q d mc ms [vr x0] S V := Ct.of okX12_readEnum.1 trivial (Nat.le_of_ble_eq_true rfl) (fun hv => h (hv _ (List.mem_of_getElem? (i := 0) rfl)))
set_option maxRecDepth 10000 in
theorem vX12_readConstant_0 {l : Launch} {G : GT} {Q : Int → Sh → Mem → Prop} {d : Nat} {S : Sh} {V : Mem} {mc ms : Nat} {x0 : Int} (h : S.1 x0 = 13 ∧ ((V x0 46) ≤ 0 → -2147483648 ≤ 24 * (V x0 41) ∧ 24 * (V x0 41) ≤ 2147483647 ∧ S.1 (V x0 14) = 20 ∧ 0 ≤ (V x0 41) ∧ (V x0 41) < S.2.1 (V x0 14) ∧ -2147483648 ≤ (24 * (V x0 41)) + (V (V x0 14) (V x0 41)) ∧ (24 * (V x0 41)) + (V (V x0 14) (V x0 41)) ≤ 2147483647 ∧ CT l G bX12_tells d mc ms [vr x0] S V (fun z2 S2 V2 mc2 ms2 => S2.1 x0 = 13 ∧ CT l G bX12_newName d mc2 ms2 [vr x0, vi z2] S2 V2 (fun z4 S4 V4 mc4 ms4 => S4.1 x0 = 13 ∧ ((V4 x0 46) ≤ 0 → S4.1 (V4 x0 14) = 20 ∧ 0 ≤ (V4 x0 41) ∧ (V4 x0 41) < S4.2.1 (V4 x0 14) ∧ ((V4 (V4 x0 14) (V4 x0 41)) ≠ 24 → S4.1 (V4 x0 20) = 20 ∧ 0 ≤ ((24 * (V x0 41)) + (V (V x0 14) (V x0 41))) ∧ ((24 * (V x0 41)) + (V (V x0 14) (V x0 41))) < S4.2.1 (V4 x0 20) ∧ -2147483648 ≤ ((up V4 (V4 x0 20) ((24 * (V x0 41)) + (V (V x0 14) (V x0 41))) z4) (V4 x0 14) (V4 x0 41)) + 1 ∧ ((up V4 (V4 x0 20) ((24 * (V x0 41)) + (V (V x0 14) (V x0 41))) z4) (V4 x0 14) (V4 x0 41)) + 1 ≤ 2147483647 ∧ S4.1 (V4 x0 21) = 20 ∧ ((24 * (V x0 41)) + (V (V x0 14) (V x0 41))) < S4.2.1 (V4 x0 21) ∧ XJ l G bX12_readConstant Q d 93 [vr x0, vi ((24 * (V x0 41)) + (V (V x0 14) (V x0 41))), vi z4, vi 0] [] S4 (up (up (up V4 (V4 x0 20) ((24 * (V x0 41)) + (V (V x0 14) (V x0 41))) z4) (V4 x0 14) (V4 x0 41) (((up V4 (V4 x0 20) ((24 * (V x0 41)) + (V (V x0 14) (V x0 41))) z4) (V4 x0 14) (V4 x0 41)) + 1)) (V4 x0 21) ((24 * (V x0 41)) + (V (V x0 14) (V x0 41))) (-1)) mc4 ms4) ∧ (¬ ((V4 (V4 x0 14) (V4 x0 41)) ≠ 24) → CT l G bX12_fault d mc4 ms4 [vr x0, vi 5] S4 V4 (fun z8 S8 V8 mc8 ms8 => Q 0 S8 V8))) ∧ (¬ ((V4 x0 46) ≤ 0) → Q 0 S4 V4)))) ∧ (¬ ((V x0 46) ≤ 0) → Q 0 S V)) : XJ l G bX12_readConstant Q d 0 [vr x0, vu, vu, vu] [] S V mc ms := by
  refine X_aload_n dX12_readConstant_0 rfl ?_
  refine X_getfield (ci := 12) (k := 46) (v := vi (V x0 46)) dX12_readConstant_1 rfl (by decide) kf_RX12_275 rfl h.1 ?_
  refine X_if_le dX12_readConstant_4 (tgt := 8) rfl (fun c1 => ?_) (fun c1 => ?_)
  · refine X_bipush dX12_readConstant_8 (by decide) (by decide) ?_
    refine X_aload_n dX12_readConstant_10 rfl ?_
    refine X_getfield (ci := 12) (k := 41) (v := vi (V x0 41)) dX12_readConstant_11 rfl (by decide) kf_RX12_269 rfl h.1 ?_
    refine X_imulN dX12_readConstant_14 (h.2.1 c1).1 (h.2.1 c1).2.1 ?_
    refine X_aload_n dX12_readConstant_15 rfl ?_
    refine X_getfield (ci := 12) (k := 14) (v := vr (V x0 14)) dX12_readConstant_16 rfl (by decide) kf_RX12_29 rfl h.1 ?_
    refine X_aload_n dX12_readConstant_19 rfl ?_
    refine X_getfield (ci := 12) (k := 41) (v := vi (V x0 41)) dX12_readConstant_20 rfl (by decide) kf_RX12_269 rfl h.1 ?_
    refine X_iaload dX12_readConstant_23 (h.2.1 c1).2.2.1 (h.2.1 c1).2.2.2.1 (h.2.1 c1).2.2.2.2.1 ?_
    refine X_iaddN dX12_readConstant_24 (h.2.1 c1).2.2.2.2.2.1 (h.2.1 c1).2.2.2.2.2.2.1 ?_
    refine X_istore_n dX12_readConstant_25 (by decide) rfl ?_
    refine X_aload_n dX12_readConstant_26 rfl ?_
    refine X_aload_n dX12_readConstant_27 rfl ?_
    refine X_invV (ci := 12) (as := []) (st := [vr x0]) okX12_tells dX12_readConstant_28 km_RX12_328 rfl rfl (Nat.le_of_ble_eq_true rfl) rfl rfl h.1 (CT.imp (h.2.1 c1).2.2.2.2.2.2.2 (fun z2 S2 V2 mc2 ms2 hc3 => ?_))
    refine X_invV (ci := 12) (as := [vi z2]) (st := []) okX12_newName dX12_readConstant_31 km_RX12_314 rfl rfl (Nat.le_of_ble_eq_true rfl) rfl rfl hc3.1 (CT.imp hc3.2 (fun z4 S4 V4 mc4 ms4 hc5 => ?_))
    refine X_istore_n dX12_readConstant_34 (by decide) rfl ?_
    refine X_aload_n dX12_readConstant_35 rfl ?_
    refine X_getfield (ci := 12) (k := 46) (v := vi (V4 x0 46)) dX12_readConstant_36 rfl (by decide) kf_RX12_275 rfl hc5.1 ?_
    refine X_if_le dX12_readConstant_39 (tgt := 43) rfl (fun c6 => ?_) (fun c6 => ?_)
    · refine X_aload_n dX12_readConstant_43 rfl ?_
      refine X_getfield (ci := 12) (k := 14) (v := vr (V4 x0 14)) dX12_readConstant_44 rfl (by decide) kf_RX12_29 rfl hc5.1 ?_
      refine X_aload_n dX12_readConstant_47 rfl ?_
      refine X_getfield (ci := 12) (k := 41) (v := vi (V4 x0 41)) dX12_readConstant_48 rfl (by decide) kf_RX12_269 rfl hc5.1 ?_
      refine X_iaload dX12_readConstant_51 (hc5.2.1 c6).1 (hc5.2.1 c6).2.1 (hc5.2.1 c6).2.2.1 ?_
      refine X_bipush dX12_readConstant_52 (by decide) (by decide) ?_
      refine X_icmp_ne dX12_readConstant_54 (tgt := 64) rfl (fun c7 => ?_) (fun c7 => ?_)
      · refine X_aload_n dX12_readConstant_64 rfl ?_
        refine X_getfield (ci := 12) (k := 20) (v := vr (V4 x0 20)) dX12_readConstant_65 rfl (by decide) kf_RX12_47 rfl hc5.1 ?_
        refine X_iload_n dX12_readConstant_68 rfl ?_
        refine X_iload_n dX12_readConstant_69 rfl ?_
        refine X_iastore dX12_readConstant_70 ((hc5.2.1 c6).2.2.2.1 c7).1 ((hc5.2.1 c6).2.2.2.1 c7).2.1 ((hc5.2.1 c6).2.2.2.1 c7).2.2.1 ?_
        refine X_aload_n dX12_readConstant_71 rfl ?_
        refine X_getfield (ci := 12) (k := 14) (v := vr (V4 x0 14)) dX12_readConstant_72 rfl (by decide) kf_RX12_29 (congrArg vr (up_ne (Or.inl (tag_ne hc5.1 ((hc5.2.1 c6).2.2.2.1 c7).1 (by decide))))) hc5.1 ?_
        refine X_aload_n dX12_readConstant_75 rfl ?_
        refine X_getfield (ci := 12) (k := 41) (v := vi (V4 x0 41)) dX12_readConstant_76 rfl (by decide) kf_RX12_269 (congrArg vi (up_ne (Or.inl (tag_ne hc5.1 ((hc5.2.1 c6).2.2.2.1 c7).1 (by decide))))) hc5.1 ?_
        refine X_dup2 dX12_readConstant_79 rfl (rv_cat _) ?_
        refine X_iaload dX12_readConstant_80 (hc5.2.1 c6).1 (hc5.2.1 c6).2.1 (hc5.2.1 c6).2.2.1 ?_
        refine X_iconst dX12_readConstant_81 (by decide) ?_
        refine X_iaddN dX12_readConstant_82 ((hc5.2.1 c6).2.2.2.1 c7).2.2.2.1 ((hc5.2.1 c6).2.2.2.1 c7).2.2.2.2.1 ?_
        refine X_iastore dX12_readConstant_83 (hc5.2.1 c6).1 (hc5.2.1 c6).2.1 (hc5.2.1 c6).2.2.1 ?_
        refine X_aload_n dX12_readConstant_84 rfl ?_
        refine X_getfield (ci := 12) (k := 21) (v := vr (V4 x0 21)) dX12_readConstant_85 rfl (by decide) kf_RX12_50 (congrArg vr ((up_ne (Or.inl (tag_ne hc5.1 (hc5.2.1 c6).1 (by decide)))).trans (up_ne (Or.inl (tag_ne hc5.1 ((hc5.2.1 c6).2.2.2.1 c7).1 (by decide)))))) hc5.1 ?_
        refine X_iload_n dX12_readConstant_88 rfl ?_
        refine X_iconst dX12_readConstant_89 (by decide) ?_
        refine X_iastore dX12_readConstant_90 ((hc5.2.1 c6).2.2.2.1 c7).2.2.2.2.2.1 ((hc5.2.1 c6).2.2.2.1 c7).2.1 ((hc5.2.1 c6).2.2.2.1 c7).2.2.2.2.2.2.1 ?_
        refine X_iconst dX12_readConstant_91 (by decide) ?_
        refine X_istore_n dX12_readConstant_92 (by decide) rfl ?_
        exact ((hc5.2.1 c6).2.2.2.1 c7).2.2.2.2.2.2.2
      · refine X_aload_n dX12_readConstant_57 rfl ?_
        refine X_iconst dX12_readConstant_58 (by decide) ?_
        refine X_invV (ci := 12) (as := [vi 5]) (st := []) okX12_fault dX12_readConstant_59 km_RX12_288 rfl rfl (Nat.le_of_ble_eq_true rfl) rfl rfl hc5.1 (CT.imp ((hc5.2.1 c6).2.2.2.2 c7) (fun z8 S8 V8 mc8 ms8 hc9 => ?_))
        refine X_istore_n dX12_readConstant_62 (by decide) rfl ?_
        exact X_ret (z := 0) dX12_readConstant_63 rfl (fun _ => trivial) hc9
    · exact X_ret (z := 0) dX12_readConstant_42 rfl (fun _ => trivial) (hc5.2.2 c6)
  · exact X_ret (z := 0) dX12_readConstant_7 rfl (fun _ => trivial) (h.2.2 c1)
set_option maxRecDepth 10000 in
theorem vX12_readConstant_93 {l : Launch} {G : GT} {Q : Int → Sh → Mem → Prop} {d : Nat} {S : Sh} {V : Mem} {mc ms : Nat} {x0 x1 x2 x3 : Int} (h : (4 ≤ x3 → S.1 x0 = 13 ∧ CT l G bX12_next d mc ms [vr x0] S V (fun z2 S2 V2 mc2 ms2 => S2.1 x0 = 13 ∧ CT l G bX12_isSign d mc2 ms2 [vr x0, vi 40] S2 V2 (fun z4 S4 V4 mc4 ms4 => (z4 = 0 → S4.1 x0 = 13 ∧ (0 < (V4 x0 46) → Q 0 S4 V4) ∧ (¬ (0 < (V4 x0 46)) → CT l G bX12_isSign d mc4 ms4 [vr x0, vi 123] S4 V4 (fun z8 S8 V8 mc8 ms8 => (z8 ≠ 0 → S8.1 x0 = 13 ∧ CT l G bX12_next d mc8 ms8 [vr x0] S8 V8 (fun z11 S11 V11 mc11 ms11 => XJ l G bX12_readConstant Q d 172 [vr x0, vi x1, vi x2, vi x3] [] S11 V11 mc11 ms11)) ∧ (¬ (z8 ≠ 0) → Q 0 S8 V8)))) ∧ (¬ (z4 = 0) → S4.1 x0 = 13 ∧ CT l G bX12_next d mc4 ms4 [vr x0] S4 V4 (fun z13 S13 V13 mc13 ms13 => S13.1 x0 = 13 ∧ CT l G bX12_readExpr d mc13 ms13 [vr x0, vi 0, vi 1, vi 0] S13 V13 (fun z15 S15 V15 mc15 ms15 => S15.1 (V13 x0 21) = 20 ∧ 0 ≤ x1 ∧ x1 < S15.2.1 (V13 x0 21) ∧ S15.1 x0 = 13 ∧ CT l G bX12_sign d mc15 ms15 [vr x0, vi 41] S15 (up V15 (V13 x0 21) x1 z15) (fun z17 S17 V17 mc17 ms17 => S17.1 x0 = 13 ∧ (0 < (V17 x0 46) → Q 0 S17 V17) ∧ (¬ (0 < (V17 x0 46)) → CT l G bX12_isSign d mc17 ms17 [vr x0, vi 123] S17 V17 (fun z20 S20 V20 mc20 ms20 => (z20 ≠ 0 → S20.1 x0 = 13 ∧ CT l G bX12_next d mc20 ms20 [vr x0] S20 V20 (fun z23 S23 V23 mc23 ms23 => XJ l G bX12_readConstant Q d 172 [vr x0, vi x1, vi x2, vi x3] [] S23 V23 mc23 ms23)) ∧ (¬ (z20 ≠ 0) → Q 0 S20 V20)))))))))) ∧ (¬ (4 ≤ x3) → S.1 x0 = 13 ∧ -2147483648 ≤ 4 * x1 ∧ 4 * x1 ≤ 2147483647 ∧ -2147483648 ≤ (4 * x1) + x3 ∧ (4 * x1) + x3 ≤ 2147483647 ∧ S.1 (V x0 22) = 20 ∧ 0 ≤ ((4 * x1) + x3) ∧ ((4 * x1) + x3) < S.2.1 (V x0 22) ∧ -2147483648 ≤ x3 + 1 ∧ x3 + 1 ≤ 2147483647 ∧ XJ l G bX12_readConstant Q d 93 [vr x0, vi x1, vi x2, vi (x3 + 1)] [] S (up V (V x0 22) ((4 * x1) + x3) (-1)) mc ms)) : XJ l G bX12_readConstant Q d 93 [vr x0, vi x1, vi x2, vi x3] [] S V mc ms := by
  refine X_iload_n dX12_readConstant_93 rfl ?_
  refine X_iconst dX12_readConstant_94 (by decide) ?_
  refine X_icmp_ge dX12_readConstant_95 (tgt := 115) rfl (fun c1 => ?_) (fun c1 => ?_)
  · refine X_aload_n dX12_readConstant_115 rfl ?_
    refine X_invV (ci := 12) (as := []) (st := []) okX12_next dX12_readConstant_116 km_RX12_285 rfl rfl (Nat.le_of_ble_eq_true rfl) rfl rfl (h.1 c1).1 (CT.imp (h.1 c1).2 (fun z2 S2 V2 mc2 ms2 hc3 => ?_))
    refine X_aload_n dX12_readConstant_119 rfl ?_
    refine X_bipush dX12_readConstant_120 (by decide) (by decide) ?_
    refine X_invV (ci := 12) (as := [vi 40]) (st := []) okX12_isSign dX12_readConstant_122 km_RX12_281 rfl rfl (Nat.le_of_ble_eq_true rfl) rfl rfl hc3.1 (CT.imp hc3.2 (fun z4 S4 V4 mc4 ms4 hc5 => ?_))
    refine X_if_eq dX12_readConstant_125 (tgt := 151) rfl (fun c6 => ?_) (fun c6 => ?_)
    · refine X_aload_n dX12_readConstant_151 rfl ?_
      refine X_getfield (ci := 12) (k := 46) (v := vi (V4 x0 46)) dX12_readConstant_152 rfl (by decide) kf_RX12_275 rfl (hc5.1 c6).1 ?_
      refine X_if_gt dX12_readConstant_155 (tgt := 167) rfl (fun c7 => ?_) (fun c7 => ?_)
      · exact X_ret (z := 0) dX12_readConstant_167 rfl (fun _ => trivial) ((hc5.1 c6).2.1 c7)
      · refine X_aload_n dX12_readConstant_158 rfl ?_
        refine X_bipush dX12_readConstant_159 (by decide) (by decide) ?_
        refine X_invV (ci := 12) (as := [vi 123]) (st := []) okX12_isSign dX12_readConstant_161 km_RX12_281 rfl rfl (Nat.le_of_ble_eq_true rfl) rfl rfl (hc5.1 c6).1 (CT.imp ((hc5.1 c6).2.2 c7) (fun z8 S8 V8 mc8 ms8 hc9 => ?_))
        refine X_if_ne dX12_readConstant_164 (tgt := 168) rfl (fun c10 => ?_) (fun c10 => ?_)
        · refine X_aload_n dX12_readConstant_168 rfl ?_
          refine X_invV (ci := 12) (as := []) (st := []) okX12_next dX12_readConstant_169 km_RX12_285 rfl rfl (Nat.le_of_ble_eq_true rfl) rfl rfl (hc9.1 c10).1 (CT.imp (hc9.1 c10).2 (fun z11 S11 V11 mc11 ms11 hc12 => ?_))
          exact hc12
        · exact X_ret (z := 0) dX12_readConstant_167 rfl (fun _ => trivial) (hc9.2 c10)
    · refine X_aload_n dX12_readConstant_128 rfl ?_
      refine X_invV (ci := 12) (as := []) (st := []) okX12_next dX12_readConstant_129 km_RX12_285 rfl rfl (Nat.le_of_ble_eq_true rfl) rfl rfl (hc5.2 c6).1 (CT.imp (hc5.2 c6).2 (fun z13 S13 V13 mc13 ms13 hc14 => ?_))
      refine X_aload_n dX12_readConstant_132 rfl ?_
      refine X_getfield (ci := 12) (k := 21) (v := vr (V13 x0 21)) dX12_readConstant_133 rfl (by decide) kf_RX12_50 rfl hc14.1 ?_
      refine X_iload_n dX12_readConstant_136 rfl ?_
      refine X_aload_n dX12_readConstant_137 rfl ?_
      refine X_iconst dX12_readConstant_138 (by decide) ?_
      refine X_iconst dX12_readConstant_139 (by decide) ?_
      refine X_iconst dX12_readConstant_140 (by decide) ?_
      refine X_invV (ci := 12) (as := [vi 0, vi 1, vi 0]) (st := [vi x1, vr (V13 x0 21)]) okX12_readExpr dX12_readConstant_141 km_RX12_331 rfl rfl (Nat.le_of_ble_eq_true rfl) rfl rfl hc14.1 (CT.imp hc14.2 (fun z15 S15 V15 mc15 ms15 hc16 => ?_))
      refine X_iastore dX12_readConstant_144 hc16.1 hc16.2.1 hc16.2.2.1 ?_
      refine X_aload_n dX12_readConstant_145 rfl ?_
      refine X_bipush dX12_readConstant_146 (by decide) (by decide) ?_
      refine X_invV (ci := 12) (as := [vi 41]) (st := []) okX12_sign dX12_readConstant_148 km_RX12_318 rfl rfl (Nat.le_of_ble_eq_true rfl) rfl rfl hc16.2.2.2.1 (CT.imp hc16.2.2.2.2 (fun z17 S17 V17 mc17 ms17 hc18 => ?_))
      refine X_aload_n dX12_readConstant_151 rfl ?_
      refine X_getfield (ci := 12) (k := 46) (v := vi (V17 x0 46)) dX12_readConstant_152 rfl (by decide) kf_RX12_275 rfl hc18.1 ?_
      refine X_if_gt dX12_readConstant_155 (tgt := 167) rfl (fun c19 => ?_) (fun c19 => ?_)
      · exact X_ret (z := 0) dX12_readConstant_167 rfl (fun _ => trivial) (hc18.2.1 c19)
      · refine X_aload_n dX12_readConstant_158 rfl ?_
        refine X_bipush dX12_readConstant_159 (by decide) (by decide) ?_
        refine X_invV (ci := 12) (as := [vi 123]) (st := []) okX12_isSign dX12_readConstant_161 km_RX12_281 rfl rfl (Nat.le_of_ble_eq_true rfl) rfl rfl hc18.1 (CT.imp (hc18.2.2 c19) (fun z20 S20 V20 mc20 ms20 hc21 => ?_))
        refine X_if_ne dX12_readConstant_164 (tgt := 168) rfl (fun c22 => ?_) (fun c22 => ?_)
        · refine X_aload_n dX12_readConstant_168 rfl ?_
          refine X_invV (ci := 12) (as := []) (st := []) okX12_next dX12_readConstant_169 km_RX12_285 rfl rfl (Nat.le_of_ble_eq_true rfl) rfl rfl (hc21.1 c22).1 (CT.imp (hc21.1 c22).2 (fun z23 S23 V23 mc23 ms23 hc24 => ?_))
          exact hc24
        · exact X_ret (z := 0) dX12_readConstant_167 rfl (fun _ => trivial) (hc21.2 c22)
  · refine X_aload_n dX12_readConstant_98 rfl ?_
    refine X_getfield (ci := 12) (k := 22) (v := vr (V x0 22)) dX12_readConstant_99 rfl (by decide) kf_RX12_53 rfl (h.2 c1).1 ?_
    refine X_iconst dX12_readConstant_102 (by decide) ?_
    refine X_iload_n dX12_readConstant_103 rfl ?_
    refine X_imulN dX12_readConstant_104 (h.2 c1).2.1 (h.2 c1).2.2.1 ?_
    refine X_iload_n dX12_readConstant_105 rfl ?_
    refine X_iaddN dX12_readConstant_106 (h.2 c1).2.2.2.1 (h.2 c1).2.2.2.2.1 ?_
    refine X_iconst dX12_readConstant_107 (by decide) ?_
    refine X_iastore dX12_readConstant_108 (h.2 c1).2.2.2.2.2.1 (h.2 c1).2.2.2.2.2.2.1 (h.2 c1).2.2.2.2.2.2.2.1 ?_
    refine X_iincN dX12_readConstant_109 rfl (by decide) rfl (e := x3 + 1) rfl (h.2 c1).2.2.2.2.2.2.2.2.1 (h.2 c1).2.2.2.2.2.2.2.2.2.1 ?_
    refine X_goto dX12_readConstant_112 (tgt := 93) rfl ?_
    exact (h.2 c1).2.2.2.2.2.2.2.2.2.2
set_option maxRecDepth 10000 in
theorem vX12_readConstant_172 {l : Launch} {G : GT} {Q : Int → Sh → Mem → Prop} {d : Nat} {S : Sh} {V : Mem} {mc ms : Nat} {x0 x1 x2 x3 : Int} (h : S.1 x0 = 13 ∧ CT l G bX12_readAct d mc ms [vr x0, vi x1] S V (fun z1 S1 V1 mc1 ms1 => S1.1 x0 = 13 ∧ ((V1 x0 46) ≠ 0 → CT l G bX12_sign d mc1 ms1 [vr x0, vi 125] S1 V1 (fun z4 S4 V4 mc4 ms4 => Q 0 S4 V4)) ∧ (¬ ((V1 x0 46) ≠ 0) → CT l G bX12_isSign d mc1 ms1 [vr x0, vi 125] S1 V1 (fun z6 S6 V6 mc6 ms6 => (z6 = 0 → XJ l G bX12_readConstant Q d 172 [vr x0, vi x1, vi x2, vi x3] [] S6 V6 mc6 ms6) ∧ (¬ (z6 = 0) → S6.1 x0 = 13 ∧ CT l G bX12_sign d mc6 ms6 [vr x0, vi 125] S6 V6 (fun z9 S9 V9 mc9 ms9 => Q 0 S9 V9)))))) : XJ l G bX12_readConstant Q d 172 [vr x0, vi x1, vi x2, vi x3] [] S V mc ms := by
  refine X_aload_n dX12_readConstant_172 rfl ?_
  refine X_iload_n dX12_readConstant_173 rfl ?_
  refine X_invV (ci := 12) (as := [vi x1]) (st := []) okX12_readAct dX12_readConstant_174 km_RX12_335 rfl rfl (Nat.le_of_ble_eq_true rfl) rfl rfl h.1 (CT.imp h.2 (fun z1 S1 V1 mc1 ms1 hc2 => ?_))
  refine X_aload_n dX12_readConstant_177 rfl ?_
  refine X_getfield (ci := 12) (k := 46) (v := vi (V1 x0 46)) dX12_readConstant_178 rfl (by decide) kf_RX12_275 rfl hc2.1 ?_
  refine X_if_ne dX12_readConstant_181 (tgt := 193) rfl (fun c3 => ?_) (fun c3 => ?_)
  · refine X_aload_n dX12_readConstant_193 rfl ?_
    refine X_bipush dX12_readConstant_194 (by decide) (by decide) ?_
    refine X_invV (ci := 12) (as := [vi 125]) (st := []) okX12_sign dX12_readConstant_196 km_RX12_318 rfl rfl (Nat.le_of_ble_eq_true rfl) rfl rfl hc2.1 (CT.imp (hc2.2.1 c3) (fun z4 S4 V4 mc4 ms4 hc5 => ?_))
    exact X_ret (z := 0) dX12_readConstant_199 rfl (fun _ => trivial) hc5
  · refine X_aload_n dX12_readConstant_184 rfl ?_
    refine X_bipush dX12_readConstant_185 (by decide) (by decide) ?_
    refine X_invV (ci := 12) (as := [vi 125]) (st := []) okX12_isSign dX12_readConstant_187 km_RX12_281 rfl rfl (Nat.le_of_ble_eq_true rfl) rfl rfl hc2.1 (CT.imp (hc2.2.2 c3) (fun z6 S6 V6 mc6 ms6 hc7 => ?_))
    refine X_if_eq dX12_readConstant_190 (tgt := 172) rfl (fun c8 => ?_) (fun c8 => ?_)
    · exact (hc7.1 c8)
    · refine X_aload_n dX12_readConstant_193 rfl ?_
      refine X_bipush dX12_readConstant_194 (by decide) (by decide) ?_
      refine X_invV (ci := 12) (as := [vi 125]) (st := []) okX12_sign dX12_readConstant_196 km_RX12_318 rfl rfl (Nat.le_of_ble_eq_true rfl) rfl rfl (hc7.2 c8).1 (CT.imp (hc7.2 c8).2 (fun z9 S9 V9 mc9 ms9 hc10 => ?_))
      exact X_ret (z := 0) dX12_readConstant_199 rfl (fun _ => trivial) hc10
theorem qX12_readConstant {l : Launch} {G : GT} {Q : Int → Sh → Mem → Prop} {d : Nat} {S : Sh} {V : Mem} {mc ms : Nat} {x0 : Int} (h : 0 ≤ x0 → XJ l G bX12_readConstant Q d 0 [vr x0, vu, vu, vu] [] S V mc ms) : Ct l G bX12_readConstant Q d mc ms [vr x0] S V := Ct.of okX12_readConstant.1 trivial (Nat.le_of_ble_eq_true rfl) (fun hv => h (hv _ (List.mem_of_getElem? (i := 0) rfl)))
set_option maxRecDepth 10000 in
theorem vX12_readAct_0 {l : Launch} {G : GT} {Q : Int → Sh → Mem → Prop} {d : Nat} {S : Sh} {V : Mem} {mc ms : Nat} {x0 x1 : Int} (h : S.1 x0 = 13 ∧ CT l G bX12_isWord d mc ms [vr x0, vr ((G.2.2.2.1 5 : Int) + 1)] S V (fun z1 S1 V1 mc1 ms1 => (z1 ≠ 0 → S1.1 x0 = 13 ∧ CT l G bX12_next d mc1 ms1 [vr x0] S1 V1 (fun z4 S4 V4 mc4 ms4 => S4.1 x0 = 13 ∧ CT l G bX12_isName d mc4 ms4 [vr x0] S4 V4 (fun z6 S6 V6 mc6 ms6 => (z6 ≠ 0 → XJ l G bX12_readAct Q d 36 [vr x0, vi x1, vi 0, vu, vu] [] S6 V6 mc6 ms6) ∧ (¬ (z6 ≠ 0) → S6.1 x0 = 13 ∧ CT l G bX12_fault d mc6 ms6 [vr x0, vi 2] S6 V6 (fun z9 S9 V9 mc9 ms9 => Q 0 S9 V9))))) ∧ (¬ (z1 ≠ 0) → S1.1 x0 = 13 ∧ CT l G bX12_fault d mc1 ms1 [vr x0, vi 2] S1 V1 (fun z11 S11 V11 mc11 ms11 => Q 0 S11 V11)))) : XJ l G bX12_readAct Q d 0 [vr x0, vi x1, vu, vu, vu] [] S V mc ms := by
  refine X_aload_n dX12_readAct_0 rfl ?_
  refine X_ldcS (i := 5) dX12_readAct_1 (by decide) ⟨rfl, rfl⟩ ?_
  refine X_invV (ci := 12) (as := [vr ((G.2.2.2.1 5 : Int) + 1)]) (st := []) okX12_isWord dX12_readAct_3 km_RX12_235 rfl rfl (Nat.le_of_ble_eq_true rfl) rfl rfl h.1 (CT.imp h.2 (fun z1 S1 V1 mc1 ms1 hc2 => ?_))
  refine X_if_ne dX12_readAct_6 (tgt := 16) rfl (fun c3 => ?_) (fun c3 => ?_)
  · refine X_aload_n dX12_readAct_16 rfl ?_
    refine X_invV (ci := 12) (as := []) (st := []) okX12_next dX12_readAct_17 km_RX12_285 rfl rfl (Nat.le_of_ble_eq_true rfl) rfl rfl (hc2.1 c3).1 (CT.imp (hc2.1 c3).2 (fun z4 S4 V4 mc4 ms4 hc5 => ?_))
    refine X_aload_n dX12_readAct_20 rfl ?_
    refine X_invV (ci := 12) (as := []) (st := []) okX12_isName dX12_readAct_21 km_RX12_291 rfl rfl (Nat.le_of_ble_eq_true rfl) rfl rfl hc5.1 (CT.imp hc5.2 (fun z6 S6 V6 mc6 ms6 hc7 => ?_))
    refine X_if_ne dX12_readAct_24 (tgt := 34) rfl (fun c8 => ?_) (fun c8 => ?_)
    · refine X_iconst dX12_readAct_34 (by decide) ?_
      refine X_istore_n dX12_readAct_35 (by decide) rfl ?_
      exact (hc7.1 c8)
    · refine X_aload_n dX12_readAct_27 rfl ?_
      refine X_iconst dX12_readAct_28 (by decide) ?_
      refine X_invV (ci := 12) (as := [vi 2]) (st := []) okX12_fault dX12_readAct_29 km_RX12_288 rfl rfl (Nat.le_of_ble_eq_true rfl) rfl rfl (hc7.2 c8).1 (CT.imp (hc7.2 c8).2 (fun z9 S9 V9 mc9 ms9 hc10 => ?_))
      refine X_istore_n dX12_readAct_32 (by decide) rfl ?_
      exact X_ret (z := 0) dX12_readAct_33 rfl (fun _ => trivial) hc10
  · refine X_aload_n dX12_readAct_9 rfl ?_
    refine X_iconst dX12_readAct_10 (by decide) ?_
    refine X_invV (ci := 12) (as := [vi 2]) (st := []) okX12_fault dX12_readAct_11 km_RX12_288 rfl rfl (Nat.le_of_ble_eq_true rfl) rfl rfl (hc2.2 c3).1 (CT.imp (hc2.2 c3).2 (fun z11 S11 V11 mc11 ms11 hc12 => ?_))
    refine X_istore_n dX12_readAct_14 (by decide) rfl ?_
    exact X_ret (z := 0) dX12_readAct_15 rfl (fun _ => trivial) hc12
set_option maxRecDepth 10000 in
theorem vX12_readAct_36 {l : Launch} {G : GT} {Q : Int → Sh → Mem → Prop} {d : Nat} {S : Sh} {V : Mem} {mc ms : Nat} {x0 x1 x2 : Int} (h : S.1 x0 = 13 ∧ S.1 (V x0 11) = 20 ∧ 0 ≤ (V x0 9) ∧ (V x0 9) < S.2.1 (V x0 11) ∧ ((V (V x0 11) (V x0 9)) ≤ x2 → ((V (V x0 11) (V x0 9)) ≤ x2 → XJ l G bX12_readAct Q d 132 [vr x0, vi x1, vi x2, vu, vu] [vi 0] S V mc ms) ∧ (¬ ((V (V x0 11) (V x0 9)) ≤ x2) → (x1 ≠ (-1) → -2147483648 ≤ 4 * x1 ∧ 4 * x1 ≤ 2147483647 ∧ -2147483648 ≤ (4 * x1) + x2 ∧ (4 * x1) + x2 ≤ 2147483647 ∧ S.1 (V x0 22) = 20 ∧ 0 ≤ ((4 * x1) + x2) ∧ ((4 * x1) + x2) < S.2.1 (V x0 22) ∧ ((V (V x0 22) ((4 * x1) + x2)) = (-1) → XJ l G bX12_readAct Q d 132 [vr x0, vi x1, vi x2, vu, vu] [vi 0] S V mc ms) ∧ (¬ ((V (V x0 22) ((4 * x1) + x2)) = (-1)) → XJ l G bX12_readAct Q d 132 [vr x0, vi x1, vi x2, vu, vu] [vi 1] S V mc ms)) ∧ (¬ (x1 ≠ (-1)) → -2147483648 ≤ 4 * (V x0 41) ∧ 4 * (V x0 41) ≤ 2147483647 ∧ -2147483648 ≤ (4 * (V x0 41)) + x2 ∧ (4 * (V x0 41)) + x2 ≤ 2147483647 ∧ S.1 (V x0 19) = 20 ∧ 0 ≤ ((4 * (V x0 41)) + x2) ∧ ((4 * (V x0 41)) + x2) < S.2.1 (V x0 19) ∧ ((V (V x0 19) ((4 * (V x0 41)) + x2)) = (-1) → XJ l G bX12_readAct Q d 132 [vr x0, vi x1, vi x2, vu, vu] [vi 0] S V mc ms) ∧ (¬ ((V (V x0 19) ((4 * (V x0 41)) + x2)) = (-1)) → XJ l G bX12_readAct Q d 132 [vr x0, vi x1, vi x2, vu, vu] [vi 1] S V mc ms)))) ∧ (¬ ((V (V x0 11) (V x0 9)) ≤ x2) → -2147483648 ≤ 4 * (V x0 9) ∧ 4 * (V x0 9) ≤ 2147483647 ∧ -2147483648 ≤ (4 * (V x0 9)) + x2 ∧ (4 * (V x0 9)) + x2 ≤ 2147483647 ∧ S.1 (V x0 12) = 20 ∧ 0 ≤ ((4 * (V x0 9)) + x2) ∧ ((4 * (V x0 9)) + x2) < S.2.1 (V x0 12) ∧ CT l G bX12_nameHere d mc ms [vr x0] S V (fun z6 S6 V6 mc6 ms6 => S6.1 x0 = 13 ∧ CT l G bX12_isSame d mc6 ms6 [vr x0, vi (V (V x0 12) ((4 * (V x0 9)) + x2)), vi z6] S6 V6 (fun z8 S8 V8 mc8 ms8 => (z8 ≠ 0 → S8.1 x0 = 13 ∧ S8.1 (V8 x0 11) = 20 ∧ 0 ≤ (V8 x0 9) ∧ (V8 x0 9) < S8.2.1 (V8 x0 11) ∧ ((V8 (V8 x0 11) (V8 x0 9)) ≤ x2 → XJ l G bX12_readAct Q d 132 [vr x0, vi x1, vi x2, vu, vu] [vi 0] S8 V8 mc8 ms8) ∧ (¬ ((V8 (V8 x0 11) (V8 x0 9)) ≤ x2) → (x1 ≠ (-1) → -2147483648 ≤ 4 * x1 ∧ 4 * x1 ≤ 2147483647 ∧ -2147483648 ≤ (4 * x1) + x2 ∧ (4 * x1) + x2 ≤ 2147483647 ∧ S8.1 (V8 x0 22) = 20 ∧ 0 ≤ ((4 * x1) + x2) ∧ ((4 * x1) + x2) < S8.2.1 (V8 x0 22) ∧ ((V8 (V8 x0 22) ((4 * x1) + x2)) = (-1) → XJ l G bX12_readAct Q d 132 [vr x0, vi x1, vi x2, vu, vu] [vi 0] S8 V8 mc8 ms8) ∧ (¬ ((V8 (V8 x0 22) ((4 * x1) + x2)) = (-1)) → XJ l G bX12_readAct Q d 132 [vr x0, vi x1, vi x2, vu, vu] [vi 1] S8 V8 mc8 ms8)) ∧ (¬ (x1 ≠ (-1)) → -2147483648 ≤ 4 * (V8 x0 41) ∧ 4 * (V8 x0 41) ≤ 2147483647 ∧ -2147483648 ≤ (4 * (V8 x0 41)) + x2 ∧ (4 * (V8 x0 41)) + x2 ≤ 2147483647 ∧ S8.1 (V8 x0 19) = 20 ∧ 0 ≤ ((4 * (V8 x0 41)) + x2) ∧ ((4 * (V8 x0 41)) + x2) < S8.2.1 (V8 x0 19) ∧ ((V8 (V8 x0 19) ((4 * (V8 x0 41)) + x2)) = (-1) → XJ l G bX12_readAct Q d 132 [vr x0, vi x1, vi x2, vu, vu] [vi 0] S8 V8 mc8 ms8) ∧ (¬ ((V8 (V8 x0 19) ((4 * (V8 x0 41)) + x2)) = (-1)) → XJ l G bX12_readAct Q d 132 [vr x0, vi x1, vi x2, vu, vu] [vi 1] S8 V8 mc8 ms8)))) ∧ (¬ (z8 ≠ 0) → -2147483648 ≤ x2 + 1 ∧ x2 + 1 ≤ 2147483647 ∧ XJ l G bX12_readAct Q d 36 [vr x0, vi x1, vi (x2 + 1), vu, vu] [] S8 V8 mc8 ms8))))) : XJ l G bX12_readAct Q d 36 [vr x0, vi x1, vi x2, vu, vu] [] S V mc ms := by
  refine X_iload_n dX12_readAct_36 rfl ?_
  refine X_aload_n dX12_readAct_37 rfl ?_
  refine X_getfield (ci := 12) (k := 11) (v := vr (V x0 11)) dX12_readAct_38 rfl (by decide) kf_RX12_20 rfl h.1 ?_
  refine X_aload_n dX12_readAct_41 rfl ?_
  refine X_getfield (ci := 12) (k := 9) (v := vi (V x0 9)) dX12_readAct_42 rfl (by decide) kf_RX12_263 rfl h.1 ?_
  refine X_iaload dX12_readAct_45 h.2.1 h.2.2.1 h.2.2.2.1 ?_
  refine X_icmp_ge dX12_readAct_46 (tgt := 79) rfl (fun c1 => ?_) (fun c1 => ?_)
  · refine X_iload_n dX12_readAct_79 rfl ?_
    refine X_aload_n dX12_readAct_80 rfl ?_
    refine X_getfield (ci := 12) (k := 11) (v := vr (V x0 11)) dX12_readAct_81 rfl (by decide) kf_RX12_20 rfl h.1 ?_
    refine X_aload_n dX12_readAct_84 rfl ?_
    refine X_getfield (ci := 12) (k := 9) (v := vi (V x0 9)) dX12_readAct_85 rfl (by decide) kf_RX12_263 rfl h.1 ?_
    refine X_iaload dX12_readAct_88 h.2.1 h.2.2.1 h.2.2.2.1 ?_
    refine X_icmp_ge dX12_readAct_89 (tgt := 131) rfl (fun c2 => ?_) (fun c2 => ?_)
    · refine X_iconst dX12_readAct_131 (by decide) ?_
      exact ((h.2.2.2.2.1 c1).1 c2)
    · refine X_iload_n dX12_readAct_92 rfl ?_
      refine X_iconst dX12_readAct_93 (by decide) ?_
      refine X_icmp_ne dX12_readAct_94 (tgt := 113) rfl (fun c3 => ?_) (fun c3 => ?_)
      · refine X_aload_n dX12_readAct_113 rfl ?_
        refine X_getfield (ci := 12) (k := 22) (v := vr (V x0 22)) dX12_readAct_114 rfl (by decide) kf_RX12_53 rfl h.1 ?_
        refine X_iconst dX12_readAct_117 (by decide) ?_
        refine X_iload_n dX12_readAct_118 rfl ?_
        refine X_imulN dX12_readAct_119 (((h.2.2.2.2.1 c1).2 c2).1 c3).1 (((h.2.2.2.2.1 c1).2 c2).1 c3).2.1 ?_
        refine X_iload_n dX12_readAct_120 rfl ?_
        refine X_iaddN dX12_readAct_121 (((h.2.2.2.2.1 c1).2 c2).1 c3).2.2.1 (((h.2.2.2.2.1 c1).2 c2).1 c3).2.2.2.1 ?_
        refine X_iaload dX12_readAct_122 (((h.2.2.2.2.1 c1).2 c2).1 c3).2.2.2.2.1 (((h.2.2.2.2.1 c1).2 c2).1 c3).2.2.2.2.2.1 (((h.2.2.2.2.1 c1).2 c2).1 c3).2.2.2.2.2.2.1 ?_
        refine X_iconst dX12_readAct_123 (by decide) ?_
        refine X_icmp_eq dX12_readAct_124 (tgt := 131) rfl (fun c4 => ?_) (fun c4 => ?_)
        · refine X_iconst dX12_readAct_131 (by decide) ?_
          exact ((((h.2.2.2.2.1 c1).2 c2).1 c3).2.2.2.2.2.2.2.1 c4)
        · refine X_iconst dX12_readAct_127 (by decide) ?_
          refine X_goto dX12_readAct_128 (tgt := 132) rfl ?_
          exact ((((h.2.2.2.2.1 c1).2 c2).1 c3).2.2.2.2.2.2.2.2 c4)
      · refine X_aload_n dX12_readAct_97 rfl ?_
        refine X_getfield (ci := 12) (k := 19) (v := vr (V x0 19)) dX12_readAct_98 rfl (by decide) kf_RX12_44 rfl h.1 ?_
        refine X_iconst dX12_readAct_101 (by decide) ?_
        refine X_aload_n dX12_readAct_102 rfl ?_
        refine X_getfield (ci := 12) (k := 41) (v := vi (V x0 41)) dX12_readAct_103 rfl (by decide) kf_RX12_269 rfl h.1 ?_
        refine X_imulN dX12_readAct_106 (((h.2.2.2.2.1 c1).2 c2).2 c3).1 (((h.2.2.2.2.1 c1).2 c2).2 c3).2.1 ?_
        refine X_iload_n dX12_readAct_107 rfl ?_
        refine X_iaddN dX12_readAct_108 (((h.2.2.2.2.1 c1).2 c2).2 c3).2.2.1 (((h.2.2.2.2.1 c1).2 c2).2 c3).2.2.2.1 ?_
        refine X_iaload dX12_readAct_109 (((h.2.2.2.2.1 c1).2 c2).2 c3).2.2.2.2.1 (((h.2.2.2.2.1 c1).2 c2).2 c3).2.2.2.2.2.1 (((h.2.2.2.2.1 c1).2 c2).2 c3).2.2.2.2.2.2.1 ?_
        refine X_goto dX12_readAct_110 (tgt := 123) rfl ?_
        refine X_iconst dX12_readAct_123 (by decide) ?_
        refine X_icmp_eq dX12_readAct_124 (tgt := 131) rfl (fun c5 => ?_) (fun c5 => ?_)
        · refine X_iconst dX12_readAct_131 (by decide) ?_
          exact ((((h.2.2.2.2.1 c1).2 c2).2 c3).2.2.2.2.2.2.2.1 c5)
        · refine X_iconst dX12_readAct_127 (by decide) ?_
          refine X_goto dX12_readAct_128 (tgt := 132) rfl ?_
          exact ((((h.2.2.2.2.1 c1).2 c2).2 c3).2.2.2.2.2.2.2.2 c5)
  · refine X_aload_n dX12_readAct_49 rfl ?_
    refine X_aload_n dX12_readAct_50 rfl ?_
    refine X_getfield (ci := 12) (k := 12) (v := vr (V x0 12)) dX12_readAct_51 rfl (by decide) kf_RX12_23 rfl h.1 ?_
    refine X_iconst dX12_readAct_54 (by decide) ?_
    refine X_aload_n dX12_readAct_55 rfl ?_
    refine X_getfield (ci := 12) (k := 9) (v := vi (V x0 9)) dX12_readAct_56 rfl (by decide) kf_RX12_263 rfl h.1 ?_
    refine X_imulN dX12_readAct_59 (h.2.2.2.2.2 c1).1 (h.2.2.2.2.2 c1).2.1 ?_
    refine X_iload_n dX12_readAct_60 rfl ?_
    refine X_iaddN dX12_readAct_61 (h.2.2.2.2.2 c1).2.2.1 (h.2.2.2.2.2 c1).2.2.2.1 ?_
    refine X_iaload dX12_readAct_62 (h.2.2.2.2.2 c1).2.2.2.2.1 (h.2.2.2.2.2 c1).2.2.2.2.2.1 (h.2.2.2.2.2 c1).2.2.2.2.2.2.1 ?_
    refine X_aload_n dX12_readAct_63 rfl ?_
    refine X_invV (ci := 12) (as := []) (st := [vi (V (V x0 12) ((4 * (V x0 9)) + x2)), vr x0]) okX12_nameHere dX12_readAct_64 km_RX12_294 rfl rfl (Nat.le_of_ble_eq_true rfl) rfl rfl h.1 (CT.imp (h.2.2.2.2.2 c1).2.2.2.2.2.2.2 (fun z6 S6 V6 mc6 ms6 hc7 => ?_))
    refine X_invV (ci := 12) (as := [vi (V (V x0 12) ((4 * (V x0 9)) + x2)), vi z6]) (st := []) okX12_isSame dX12_readAct_67 km_RX12_297 rfl rfl (Nat.le_of_ble_eq_true rfl) rfl rfl hc7.1 (CT.imp hc7.2 (fun z8 S8 V8 mc8 ms8 hc9 => ?_))
    refine X_if_ne dX12_readAct_70 (tgt := 79) rfl (fun c10 => ?_) (fun c10 => ?_)
    · refine X_iload_n dX12_readAct_79 rfl ?_
      refine X_aload_n dX12_readAct_80 rfl ?_
      refine X_getfield (ci := 12) (k := 11) (v := vr (V8 x0 11)) dX12_readAct_81 rfl (by decide) kf_RX12_20 rfl (hc9.1 c10).1 ?_
      refine X_aload_n dX12_readAct_84 rfl ?_
      refine X_getfield (ci := 12) (k := 9) (v := vi (V8 x0 9)) dX12_readAct_85 rfl (by decide) kf_RX12_263 rfl (hc9.1 c10).1 ?_
      refine X_iaload dX12_readAct_88 (hc9.1 c10).2.1 (hc9.1 c10).2.2.1 (hc9.1 c10).2.2.2.1 ?_
      refine X_icmp_ge dX12_readAct_89 (tgt := 131) rfl (fun c11 => ?_) (fun c11 => ?_)
      · refine X_iconst dX12_readAct_131 (by decide) ?_
        exact ((hc9.1 c10).2.2.2.2.1 c11)
      · refine X_iload_n dX12_readAct_92 rfl ?_
        refine X_iconst dX12_readAct_93 (by decide) ?_
        refine X_icmp_ne dX12_readAct_94 (tgt := 113) rfl (fun c12 => ?_) (fun c12 => ?_)
        · refine X_aload_n dX12_readAct_113 rfl ?_
          refine X_getfield (ci := 12) (k := 22) (v := vr (V8 x0 22)) dX12_readAct_114 rfl (by decide) kf_RX12_53 rfl (hc9.1 c10).1 ?_
          refine X_iconst dX12_readAct_117 (by decide) ?_
          refine X_iload_n dX12_readAct_118 rfl ?_
          refine X_imulN dX12_readAct_119 (((hc9.1 c10).2.2.2.2.2 c11).1 c12).1 (((hc9.1 c10).2.2.2.2.2 c11).1 c12).2.1 ?_
          refine X_iload_n dX12_readAct_120 rfl ?_
          refine X_iaddN dX12_readAct_121 (((hc9.1 c10).2.2.2.2.2 c11).1 c12).2.2.1 (((hc9.1 c10).2.2.2.2.2 c11).1 c12).2.2.2.1 ?_
          refine X_iaload dX12_readAct_122 (((hc9.1 c10).2.2.2.2.2 c11).1 c12).2.2.2.2.1 (((hc9.1 c10).2.2.2.2.2 c11).1 c12).2.2.2.2.2.1 (((hc9.1 c10).2.2.2.2.2 c11).1 c12).2.2.2.2.2.2.1 ?_
          refine X_iconst dX12_readAct_123 (by decide) ?_
          refine X_icmp_eq dX12_readAct_124 (tgt := 131) rfl (fun c13 => ?_) (fun c13 => ?_)
          · refine X_iconst dX12_readAct_131 (by decide) ?_
            exact ((((hc9.1 c10).2.2.2.2.2 c11).1 c12).2.2.2.2.2.2.2.1 c13)
          · refine X_iconst dX12_readAct_127 (by decide) ?_
            refine X_goto dX12_readAct_128 (tgt := 132) rfl ?_
            exact ((((hc9.1 c10).2.2.2.2.2 c11).1 c12).2.2.2.2.2.2.2.2 c13)
        · refine X_aload_n dX12_readAct_97 rfl ?_
          refine X_getfield (ci := 12) (k := 19) (v := vr (V8 x0 19)) dX12_readAct_98 rfl (by decide) kf_RX12_44 rfl (hc9.1 c10).1 ?_
          refine X_iconst dX12_readAct_101 (by decide) ?_
          refine X_aload_n dX12_readAct_102 rfl ?_
          refine X_getfield (ci := 12) (k := 41) (v := vi (V8 x0 41)) dX12_readAct_103 rfl (by decide) kf_RX12_269 rfl (hc9.1 c10).1 ?_
          refine X_imulN dX12_readAct_106 (((hc9.1 c10).2.2.2.2.2 c11).2 c12).1 (((hc9.1 c10).2.2.2.2.2 c11).2 c12).2.1 ?_
          refine X_iload_n dX12_readAct_107 rfl ?_
          refine X_iaddN dX12_readAct_108 (((hc9.1 c10).2.2.2.2.2 c11).2 c12).2.2.1 (((hc9.1 c10).2.2.2.2.2 c11).2 c12).2.2.2.1 ?_
          refine X_iaload dX12_readAct_109 (((hc9.1 c10).2.2.2.2.2 c11).2 c12).2.2.2.2.1 (((hc9.1 c10).2.2.2.2.2 c11).2 c12).2.2.2.2.2.1 (((hc9.1 c10).2.2.2.2.2 c11).2 c12).2.2.2.2.2.2.1 ?_
          refine X_goto dX12_readAct_110 (tgt := 123) rfl ?_
          refine X_iconst dX12_readAct_123 (by decide) ?_
          refine X_icmp_eq dX12_readAct_124 (tgt := 131) rfl (fun c14 => ?_) (fun c14 => ?_)
          · refine X_iconst dX12_readAct_131 (by decide) ?_
            exact ((((hc9.1 c10).2.2.2.2.2 c11).2 c12).2.2.2.2.2.2.2.1 c14)
          · refine X_iconst dX12_readAct_127 (by decide) ?_
            refine X_goto dX12_readAct_128 (tgt := 132) rfl ?_
            exact ((((hc9.1 c10).2.2.2.2.2 c11).2 c12).2.2.2.2.2.2.2.2 c14)
    · refine X_iincN dX12_readAct_73 rfl (by decide) rfl (e := x2 + 1) rfl (hc9.2 c10).1 (hc9.2 c10).2.1 ?_
      refine X_goto dX12_readAct_76 (tgt := 36) rfl ?_
      exact (hc9.2 c10).2.2
set_option maxRecDepth 10000 in
theorem vX12_readAct_132 {l : Launch} {G : GT} {Q : Int → Sh → Mem → Prop} {d : Nat} {S : Sh} {V : Mem} {mc ms : Nat} {x0 x1 x2 y0 : Int} (h : (y0 ≠ 0 → (y0 = 0 → S.1 x0 = 13 ∧ CT l G bX12_fault d mc ms [vr x0, vi 5] S V (fun z3 S3 V3 mc3 ms3 => Q 0 S3 V3)) ∧ (¬ (y0 = 0) → S.1 x0 = 13 ∧ CT l G bX12_fault d mc ms [vr x0, vi 3] S V (fun z5 S5 V5 mc5 ms5 => Q 0 S5 V5))) ∧ (¬ (y0 ≠ 0) → (x2 ≠ 4 → S.1 x0 = 13 ∧ S.1 (V x0 11) = 20 ∧ 0 ≤ (V x0 9) ∧ (V x0 9) < S.2.1 (V x0 11) ∧ (x2 ≠ (V (V x0 11) (V x0 9)) → CT l G bX12_next d mc ms [vr x0] S V (fun z9 S9 V9 mc9 ms9 => S9.1 x0 = 13 ∧ CT l G bX12_sign d mc9 ms9 [vr x0, vi 61] S9 V9 (fun z11 S11 V11 mc11 ms11 => (x1 = (-1) → XJ l G bX12_readAct Q d 224 [vr x0, vi x1, vi x2, vi y0, vu] [vi 0, vi 1, vi 1, vr x0] S11 V11 mc11 ms11) ∧ (¬ (x1 = (-1)) → XJ l G bX12_readAct Q d 224 [vr x0, vi x1, vi x2, vi y0, vu] [vi 1, vi 1, vi 1, vr x0] S11 V11 mc11 ms11)))) ∧ (¬ (x2 ≠ (V (V x0 11) (V x0 9))) → -2147483648 ≤ 4 * (V x0 9) ∧ 4 * (V x0 9) ≤ 2147483647 ∧ -2147483648 ≤ (4 * (V x0 9)) + x2 ∧ (4 * (V x0 9)) + x2 ≤ 2147483647 ∧ CT l G bX12_nameHere d mc ms [vr x0] S V (fun z14 S14 V14 mc14 ms14 => S14.1 (V x0 12) = 20 ∧ 0 ≤ ((4 * (V x0 9)) + x2) ∧ ((4 * (V x0 9)) + x2) < S14.2.1 (V x0 12) ∧ S14.1 x0 = 13 ∧ S14.1 (V14 x0 11) = 20 ∧ 0 ≤ (V14 x0 9) ∧ (V14 x0 9) < S14.2.1 (V14 x0 11) ∧ -2147483648 ≤ ((up V14 (V x0 12) ((4 * (V x0 9)) + x2) z14) (V14 x0 11) (V14 x0 9)) + 1 ∧ ((up V14 (V x0 12) ((4 * (V x0 9)) + x2) z14) (V14 x0 11) (V14 x0 9)) + 1 ≤ 2147483647 ∧ CT l G bX12_next d mc14 ms14 [vr x0] S14 (up (up V14 (V x0 12) ((4 * (V x0 9)) + x2) z14) (V14 x0 11) (V14 x0 9) (((up V14 (V x0 12) ((4 * (V x0 9)) + x2) z14) (V14 x0 11) (V14 x0 9)) + 1)) (fun z16 S16 V16 mc16 ms16 => S16.1 x0 = 13 ∧ CT l G bX12_sign d mc16 ms16 [vr x0, vi 61] S16 V16 (fun z18 S18 V18 mc18 ms18 => (x1 = (-1) → XJ l G bX12_readAct Q d 224 [vr x0, vi x1, vi x2, vi y0, vu] [vi 0, vi 1, vi 1, vr x0] S18 V18 mc18 ms18) ∧ (¬ (x1 = (-1)) → XJ l G bX12_readAct Q d 224 [vr x0, vi x1, vi x2, vi y0, vu] [vi 1, vi 1, vi 1, vr x0] S18 V18 mc18 ms18)))))) ∧ (¬ (x2 ≠ 4) → (y0 = 0 → S.1 x0 = 13 ∧ CT l G bX12_fault d mc ms [vr x0, vi 5] S V (fun z22 S22 V22 mc22 ms22 => Q 0 S22 V22)) ∧ (¬ (y0 = 0) → S.1 x0 = 13 ∧ CT l G bX12_fault d mc ms [vr x0, vi 3] S V (fun z24 S24 V24 mc24 ms24 => Q 0 S24 V24))))) : XJ l G bX12_readAct Q d 132 [vr x0, vi x1, vi x2, vu, vu] [vi y0] S V mc ms := by
  refine X_istore_n dX12_readAct_132 (by decide) rfl ?_
  refine X_iload_n dX12_readAct_133 rfl ?_
  refine X_if_ne dX12_readAct_134 (tgt := 142) rfl (fun c1 => ?_) (fun c1 => ?_)
  · refine X_aload_n dX12_readAct_142 rfl ?_
    refine X_iload_n dX12_readAct_143 rfl ?_
    refine X_if_eq dX12_readAct_144 (tgt := 151) rfl (fun c2 => ?_) (fun c2 => ?_)
    · refine X_iconst dX12_readAct_151 (by decide) ?_
      refine X_invV (ci := 12) (as := [vi 5]) (st := []) okX12_fault dX12_readAct_152 km_RX12_288 rfl rfl (Nat.le_of_ble_eq_true rfl) rfl rfl ((h.1 c1).1 c2).1 (CT.imp ((h.1 c1).1 c2).2 (fun z3 S3 V3 mc3 ms3 hc4 => ?_))
      refine X_istore dX12_readAct_155 (by decide) rfl ?_
      exact X_ret (z := 0) dX12_readAct_157 rfl (fun _ => trivial) hc4
    · refine X_iconst dX12_readAct_147 (by decide) ?_
      refine X_goto dX12_readAct_148 (tgt := 152) rfl ?_
      refine X_invV (ci := 12) (as := [vi 3]) (st := []) okX12_fault dX12_readAct_152 km_RX12_288 rfl rfl (Nat.le_of_ble_eq_true rfl) rfl rfl ((h.1 c1).2 c2).1 (CT.imp ((h.1 c1).2 c2).2 (fun z5 S5 V5 mc5 ms5 hc6 => ?_))
      refine X_istore dX12_readAct_155 (by decide) rfl ?_
      exact X_ret (z := 0) dX12_readAct_157 rfl (fun _ => trivial) hc6
  · refine X_iload_n dX12_readAct_137 rfl ?_
    refine X_iconst dX12_readAct_138 (by decide) ?_
    refine X_icmp_ne dX12_readAct_139 (tgt := 158) rfl (fun c7 => ?_) (fun c7 => ?_)
    · refine X_iload_n dX12_readAct_158 rfl ?_
      refine X_aload_n dX12_readAct_159 rfl ?_
      refine X_getfield (ci := 12) (k := 11) (v := vr (V x0 11)) dX12_readAct_160 rfl (by decide) kf_RX12_20 rfl ((h.2 c1).1 c7).1 ?_
      refine X_aload_n dX12_readAct_163 rfl ?_
      refine X_getfield (ci := 12) (k := 9) (v := vi (V x0 9)) dX12_readAct_164 rfl (by decide) kf_RX12_263 rfl ((h.2 c1).1 c7).1 ?_
      refine X_iaload dX12_readAct_167 ((h.2 c1).1 c7).2.1 ((h.2 c1).1 c7).2.2.1 ((h.2 c1).1 c7).2.2.2.1 ?_
      refine X_icmp_ne dX12_readAct_168 (tgt := 201) rfl (fun c8 => ?_) (fun c8 => ?_)
      · refine X_aload_n dX12_readAct_201 rfl ?_
        refine X_invV (ci := 12) (as := []) (st := []) okX12_next dX12_readAct_202 km_RX12_285 rfl rfl (Nat.le_of_ble_eq_true rfl) rfl rfl ((h.2 c1).1 c7).1 (CT.imp (((h.2 c1).1 c7).2.2.2.2.1 c8) (fun z9 S9 V9 mc9 ms9 hc10 => ?_))
        refine X_aload_n dX12_readAct_205 rfl ?_
        refine X_bipush dX12_readAct_206 (by decide) (by decide) ?_
        refine X_invV (ci := 12) (as := [vi 61]) (st := []) okX12_sign dX12_readAct_208 km_RX12_318 rfl rfl (Nat.le_of_ble_eq_true rfl) rfl rfl hc10.1 (CT.imp hc10.2 (fun z11 S11 V11 mc11 ms11 hc12 => ?_))
        refine X_aload_n dX12_readAct_211 rfl ?_
        refine X_iconst dX12_readAct_212 (by decide) ?_
        refine X_iconst dX12_readAct_213 (by decide) ?_
        refine X_iload_n dX12_readAct_214 rfl ?_
        refine X_iconst dX12_readAct_215 (by decide) ?_
        refine X_icmp_eq dX12_readAct_216 (tgt := 223) rfl (fun c13 => ?_) (fun c13 => ?_)
        · refine X_iconst dX12_readAct_223 (by decide) ?_
          exact (hc12.1 c13)
        · refine X_iconst dX12_readAct_219 (by decide) ?_
          refine X_goto dX12_readAct_220 (tgt := 224) rfl ?_
          exact (hc12.2 c13)
      · refine X_aload_n dX12_readAct_171 rfl ?_
        refine X_getfield (ci := 12) (k := 12) (v := vr (V x0 12)) dX12_readAct_172 rfl (by decide) kf_RX12_23 rfl ((h.2 c1).1 c7).1 ?_
        refine X_iconst dX12_readAct_175 (by decide) ?_
        refine X_aload_n dX12_readAct_176 rfl ?_
        refine X_getfield (ci := 12) (k := 9) (v := vi (V x0 9)) dX12_readAct_177 rfl (by decide) kf_RX12_263 rfl ((h.2 c1).1 c7).1 ?_
        refine X_imulN dX12_readAct_180 (((h.2 c1).1 c7).2.2.2.2.2 c8).1 (((h.2 c1).1 c7).2.2.2.2.2 c8).2.1 ?_
        refine X_iload_n dX12_readAct_181 rfl ?_
        refine X_iaddN dX12_readAct_182 (((h.2 c1).1 c7).2.2.2.2.2 c8).2.2.1 (((h.2 c1).1 c7).2.2.2.2.2 c8).2.2.2.1 ?_
        refine X_aload_n dX12_readAct_183 rfl ?_
        refine X_invV (ci := 12) (as := []) (st := [vi ((4 * (V x0 9)) + x2), vr (V x0 12)]) okX12_nameHere dX12_readAct_184 km_RX12_294 rfl rfl (Nat.le_of_ble_eq_true rfl) rfl rfl ((h.2 c1).1 c7).1 (CT.imp (((h.2 c1).1 c7).2.2.2.2.2 c8).2.2.2.2 (fun z14 S14 V14 mc14 ms14 hc15 => ?_))
        refine X_iastore dX12_readAct_187 hc15.1 hc15.2.1 hc15.2.2.1 ?_
        refine X_aload_n dX12_readAct_188 rfl ?_
        refine X_getfield (ci := 12) (k := 11) (v := vr (V14 x0 11)) dX12_readAct_189 rfl (by decide) kf_RX12_20 (congrArg vr (up_ne (Or.inl (tag_ne hc15.2.2.2.1 hc15.1 (by decide))))) hc15.2.2.2.1 ?_
        refine X_aload_n dX12_readAct_192 rfl ?_
        refine X_getfield (ci := 12) (k := 9) (v := vi (V14 x0 9)) dX12_readAct_193 rfl (by decide) kf_RX12_263 (congrArg vi (up_ne (Or.inl (tag_ne hc15.2.2.2.1 hc15.1 (by decide))))) hc15.2.2.2.1 ?_
        refine X_dup2 dX12_readAct_196 rfl (rv_cat _) ?_
        refine X_iaload dX12_readAct_197 hc15.2.2.2.2.1 hc15.2.2.2.2.2.1 hc15.2.2.2.2.2.2.1 ?_
        refine X_iconst dX12_readAct_198 (by decide) ?_
        refine X_iaddN dX12_readAct_199 hc15.2.2.2.2.2.2.2.1 hc15.2.2.2.2.2.2.2.2.1 ?_
        refine X_iastore dX12_readAct_200 hc15.2.2.2.2.1 hc15.2.2.2.2.2.1 hc15.2.2.2.2.2.2.1 ?_
        refine X_aload_n dX12_readAct_201 rfl ?_
        refine X_invV (ci := 12) (as := []) (st := []) okX12_next dX12_readAct_202 km_RX12_285 rfl rfl (Nat.le_of_ble_eq_true rfl) rfl rfl hc15.2.2.2.1 (CT.imp hc15.2.2.2.2.2.2.2.2.2 (fun z16 S16 V16 mc16 ms16 hc17 => ?_))
        refine X_aload_n dX12_readAct_205 rfl ?_
        refine X_bipush dX12_readAct_206 (by decide) (by decide) ?_
        refine X_invV (ci := 12) (as := [vi 61]) (st := []) okX12_sign dX12_readAct_208 km_RX12_318 rfl rfl (Nat.le_of_ble_eq_true rfl) rfl rfl hc17.1 (CT.imp hc17.2 (fun z18 S18 V18 mc18 ms18 hc19 => ?_))
        refine X_aload_n dX12_readAct_211 rfl ?_
        refine X_iconst dX12_readAct_212 (by decide) ?_
        refine X_iconst dX12_readAct_213 (by decide) ?_
        refine X_iload_n dX12_readAct_214 rfl ?_
        refine X_iconst dX12_readAct_215 (by decide) ?_
        refine X_icmp_eq dX12_readAct_216 (tgt := 223) rfl (fun c20 => ?_) (fun c20 => ?_)
        · refine X_iconst dX12_readAct_223 (by decide) ?_
          exact (hc19.1 c20)
        · refine X_iconst dX12_readAct_219 (by decide) ?_
          refine X_goto dX12_readAct_220 (tgt := 224) rfl ?_
          exact (hc19.2 c20)
    · refine X_aload_n dX12_readAct_142 rfl ?_
      refine X_iload_n dX12_readAct_143 rfl ?_
      refine X_if_eq dX12_readAct_144 (tgt := 151) rfl (fun c21 => ?_) (fun c21 => ?_)
      · refine X_iconst dX12_readAct_151 (by decide) ?_
        refine X_invV (ci := 12) (as := [vi 5]) (st := []) okX12_fault dX12_readAct_152 km_RX12_288 rfl rfl (Nat.le_of_ble_eq_true rfl) rfl rfl (((h.2 c1).2 c7).1 c21).1 (CT.imp (((h.2 c1).2 c7).1 c21).2 (fun z22 S22 V22 mc22 ms22 hc23 => ?_))
        refine X_istore dX12_readAct_155 (by decide) rfl ?_
        exact X_ret (z := 0) dX12_readAct_157 rfl (fun _ => trivial) hc23
      · refine X_iconst dX12_readAct_147 (by decide) ?_
        refine X_goto dX12_readAct_148 (tgt := 152) rfl ?_
        refine X_invV (ci := 12) (as := [vi 3]) (st := []) okX12_fault dX12_readAct_152 km_RX12_288 rfl rfl (Nat.le_of_ble_eq_true rfl) rfl rfl (((h.2 c1).2 c7).2 c21).1 (CT.imp (((h.2 c1).2 c7).2 c21).2 (fun z24 S24 V24 mc24 ms24 hc25 => ?_))
        refine X_istore dX12_readAct_155 (by decide) rfl ?_
        exact X_ret (z := 0) dX12_readAct_157 rfl (fun _ => trivial) hc25
set_option maxRecDepth 10000 in
theorem vX12_readAct_224 {l : Launch} {G : GT} {Q : Int → Sh → Mem → Prop} {d : Nat} {S : Sh} {V : Mem} {mc ms : Nat} {x0 x1 x2 x3 y0 y1 y2 y3 : Int} (h : S.1 y0 = 13 ∧ CT l G bX12_readExpr d mc ms [vr y0, vi y1, vi y2, vi y3] S V (fun z1 S1 V1 mc1 ms1 => S1.1 x0 = 13 ∧ CT l G bX12_sign d mc1 ms1 [vr x0, vi 59] S1 V1 (fun z3 S3 V3 mc3 ms3 => (x1 ≠ (-1) → S3.1 x0 = 13 ∧ -2147483648 ≤ 4 * x1 ∧ 4 * x1 ≤ 2147483647 ∧ -2147483648 ≤ (4 * x1) + x2 ∧ (4 * x1) + x2 ≤ 2147483647 ∧ S3.1 (V3 x0 22) = 20 ∧ 0 ≤ ((4 * x1) + x2) ∧ ((4 * x1) + x2) < S3.2.1 (V3 x0 22) ∧ Q 0 S3 (up V3 (V3 x0 22) ((4 * x1) + x2) z1)) ∧ (¬ (x1 ≠ (-1)) → S3.1 x0 = 13 ∧ -2147483648 ≤ 4 * (V3 x0 41) ∧ 4 * (V3 x0 41) ≤ 2147483647 ∧ -2147483648 ≤ (4 * (V3 x0 41)) + x2 ∧ (4 * (V3 x0 41)) + x2 ≤ 2147483647 ∧ S3.1 (V3 x0 19) = 20 ∧ 0 ≤ ((4 * (V3 x0 41)) + x2) ∧ ((4 * (V3 x0 41)) + x2) < S3.2.1 (V3 x0 19) ∧ Q 0 S3 (up V3 (V3 x0 19) ((4 * (V3 x0 41)) + x2) z1))))) : XJ l G bX12_readAct Q d 224 [vr x0, vi x1, vi x2, vi x3, vu] [vi y3, vi y2, vi y1, vr y0] S V mc ms := by
  refine X_invV (ci := 12) (as := [vi y1, vi y2, vi y3]) (st := []) okX12_readExpr dX12_readAct_224 km_RX12_331 rfl rfl (Nat.le_of_ble_eq_true rfl) rfl rfl h.1 (CT.imp h.2 (fun z1 S1 V1 mc1 ms1 hc2 => ?_))
  refine X_istore dX12_readAct_227 (by decide) rfl ?_
  refine X_aload_n dX12_readAct_229 rfl ?_
  refine X_bipush dX12_readAct_230 (by decide) (by decide) ?_
  refine X_invV (ci := 12) (as := [vi 59]) (st := []) okX12_sign dX12_readAct_232 km_RX12_318 rfl rfl (Nat.le_of_ble_eq_true rfl) rfl rfl hc2.1 (CT.imp hc2.2 (fun z3 S3 V3 mc3 ms3 hc4 => ?_))
  refine X_iload_n dX12_readAct_235 rfl ?_
  refine X_iconst dX12_readAct_236 (by decide) ?_
  refine X_icmp_ne dX12_readAct_237 (tgt := 258) rfl (fun c5 => ?_) (fun c5 => ?_)
  · refine X_aload_n dX12_readAct_258 rfl ?_
    refine X_getfield (ci := 12) (k := 22) (v := vr (V3 x0 22)) dX12_readAct_259 rfl (by decide) kf_RX12_53 rfl (hc4.1 c5).1 ?_
    refine X_iconst dX12_readAct_262 (by decide) ?_
    refine X_iload_n dX12_readAct_263 rfl ?_
    refine X_imulN dX12_readAct_264 (hc4.1 c5).2.1 (hc4.1 c5).2.2.1 ?_
    refine X_iload_n dX12_readAct_265 rfl ?_
    refine X_iaddN dX12_readAct_266 (hc4.1 c5).2.2.2.1 (hc4.1 c5).2.2.2.2.1 ?_
    refine X_iload dX12_readAct_267 rfl ?_
    refine X_iastore dX12_readAct_269 (hc4.1 c5).2.2.2.2.2.1 (hc4.1 c5).2.2.2.2.2.2.1 (hc4.1 c5).2.2.2.2.2.2.2.1 ?_
    exact X_ret (z := 0) dX12_readAct_270 rfl (fun _ => trivial) (hc4.1 c5).2.2.2.2.2.2.2.2
  · refine X_aload_n dX12_readAct_240 rfl ?_
    refine X_getfield (ci := 12) (k := 19) (v := vr (V3 x0 19)) dX12_readAct_241 rfl (by decide) kf_RX12_44 rfl (hc4.2 c5).1 ?_
    refine X_iconst dX12_readAct_244 (by decide) ?_
    refine X_aload_n dX12_readAct_245 rfl ?_
    refine X_getfield (ci := 12) (k := 41) (v := vi (V3 x0 41)) dX12_readAct_246 rfl (by decide) kf_RX12_269 rfl (hc4.2 c5).1 ?_
    refine X_imulN dX12_readAct_249 (hc4.2 c5).2.1 (hc4.2 c5).2.2.1 ?_
    refine X_iload_n dX12_readAct_250 rfl ?_
    refine X_iaddN dX12_readAct_251 (hc4.2 c5).2.2.2.1 (hc4.2 c5).2.2.2.2.1 ?_
    refine X_iload dX12_readAct_252 rfl ?_
    refine X_iastore dX12_readAct_254 (hc4.2 c5).2.2.2.2.2.1 (hc4.2 c5).2.2.2.2.2.2.1 (hc4.2 c5).2.2.2.2.2.2.2.1 ?_
    refine X_goto dX12_readAct_255 (tgt := 270) rfl ?_
    exact X_ret (z := 0) dX12_readAct_270 rfl (fun _ => trivial) (hc4.2 c5).2.2.2.2.2.2.2.2
theorem qX12_readAct {l : Launch} {G : GT} {Q : Int → Sh → Mem → Prop} {d : Nat} {S : Sh} {V : Mem} {mc ms : Nat} {x0 x1 : Int} (h : 0 ≤ x0 → inI x1 → XJ l G bX12_readAct Q d 0 [vr x0, vi x1, vu, vu, vu] [] S V mc ms) : Ct l G bX12_readAct Q d mc ms [vr x0, vi x1] S V := Ct.of okX12_readAct.1 trivial (Nat.le_of_ble_eq_true rfl) (fun hv => h (hv _ (List.mem_of_getElem? (i := 0) rfl)) (hv _ (List.mem_of_getElem? (i := 1) rfl)))
set_option maxRecDepth 10000 in
theorem vX12_readMember_0 {l : Launch} {G : GT} {Q : Int → Sh → Mem → Prop} {d : Nat} {S : Sh} {V : Mem} {mc ms : Nat} {x0 : Int} (h : S.1 x0 = 13 ∧ CT l G bX12_isWord d mc ms [vr x0, vr ((G.2.2.2.1 5 : Int) + 1)] S V (fun z1 S1 V1 mc1 ms1 => (z1 = 0 → S1.1 x0 = 13 ∧ CT l G bX12_isWord d mc1 ms1 [vr x0, vr ((G.2.2.2.1 6 : Int) + 1)] S1 V1 (fun z4 S4 V4 mc4 ms4 => (z4 = 0 → S4.1 x0 = 13 ∧ CT l G bX12_isWord d mc4 ms4 [vr x0, vr ((G.2.2.2.1 7 : Int) + 1)] S4 V4 (fun z7 S7 V7 mc7 ms7 => (z7 = 0 → S7.1 x0 = 13 ∧ CT l G bX12_isWord d mc7 ms7 [vr x0, vr ((G.2.2.2.1 8 : Int) + 1)] S7 V7 (fun z10 S10 V10 mc10 ms10 => (z10 = 0 → S10.1 x0 = 13 ∧ CT l G bX12_isWord d mc10 ms10 [vr x0, vr ((G.2.2.2.1 9 : Int) + 1)] S10 V10 (fun z13 S13 V13 mc13 ms13 => (z13 = 0 → S13.1 x0 = 13 ∧ CT l G bX12_fault d mc13 ms13 [vr x0, vi 2] S13 V13 (fun z16 S16 V16 mc16 ms16 => Q 0 S16 V16)) ∧ (¬ (z13 = 0) → S13.1 x0 = 13 ∧ CT l G bX12_readSwitch d mc13 ms13 [vr x0] S13 V13 (fun z18 S18 V18 mc18 ms18 => Q 0 S18 V18)))) ∧ (¬ (z10 = 0) → S10.1 x0 = 13 ∧ S10.1 (V10 x0 17) = 20 ∧ 0 ≤ (V10 x0 41) ∧ (V10 x0 41) < S10.2.1 (V10 x0 17) ∧ ((V10 (V10 x0 17) (V10 x0 41)) ≠ 4 → CT l G bX12_next d mc10 ms10 [vr x0] S10 V10 (fun z21 S21 V21 mc21 ms21 => S21.1 x0 = 13 ∧ CT l G bX12_tells d mc21 ms21 [vr x0] S21 V21 (fun z23 S23 V23 mc23 ms23 => S23.1 x0 = 13 ∧ CT l G bX12_newName d mc23 ms23 [vr x0, vi z23] S23 V23 (fun z25 S25 V25 mc25 ms25 => S25.1 x0 = 13 ∧ ((V25 x0 46) ≤ 0 → -2147483648 ≤ 4 * (V25 x0 41) ∧ 4 * (V25 x0 41) ≤ 2147483647 ∧ S25.1 (V25 x0 17) = 20 ∧ 0 ≤ (V25 x0 41) ∧ (V25 x0 41) < S25.2.1 (V25 x0 17) ∧ -2147483648 ≤ (4 * (V25 x0 41)) + (V25 (V25 x0 17) (V25 x0 41)) ∧ (4 * (V25 x0 41)) + (V25 (V25 x0 17) (V25 x0 41)) ≤ 2147483647 ∧ S25.1 (V25 x0 27) = 20 ∧ 0 ≤ ((4 * (V25 x0 41)) + (V25 (V25 x0 17) (V25 x0 41))) ∧ ((4 * (V25 x0 41)) + (V25 (V25 x0 17) (V25 x0 41))) < S25.2.1 (V25 x0 27) ∧ -2147483648 ≤ ((up V25 (V25 x0 27) ((4 * (V25 x0 41)) + (V25 (V25 x0 17) (V25 x0 41))) z25) (V25 x0 17) (V25 x0 41)) + 1 ∧ ((up V25 (V25 x0 27) ((4 * (V25 x0 41)) + (V25 (V25 x0 17) (V25 x0 41))) z25) (V25 x0 17) (V25 x0 41)) + 1 ≤ 2147483647 ∧ CT l G bX12_next d mc25 ms25 [vr x0] S25 (up (up V25 (V25 x0 27) ((4 * (V25 x0 41)) + (V25 (V25 x0 17) (V25 x0 41))) z25) (V25 x0 17) (V25 x0 41) (((up V25 (V25 x0 27) ((4 * (V25 x0 41)) + (V25 (V25 x0 17) (V25 x0 41))) z25) (V25 x0 17) (V25 x0 41)) + 1)) (fun z28 S28 V28 mc28 ms28 => S28.1 x0 = 13 ∧ CT l G bX12_sign d mc28 ms28 [vr x0, vi 61] S28 V28 (fun z30 S30 V30 mc30 ms30 => S30.1 x0 = 13 ∧ CT l G bX12_readExpr d mc30 ms30 [vr x0, vi 0, vi 0, vi 0] S30 V30 (fun z32 S32 V32 mc32 ms32 => S32.1 (V30 x0 28) = 20 ∧ 0 ≤ ((4 * (V25 x0 41)) + (V25 (V25 x0 17) (V25 x0 41))) ∧ ((4 * (V25 x0 41)) + (V25 (V25 x0 17) (V25 x0 41))) < S32.2.1 (V30 x0 28) ∧ S32.1 x0 = 13 ∧ CT l G bX12_sign d mc32 ms32 [vr x0, vi 59] S32 (up V32 (V30 x0 28) ((4 * (V25 x0 41)) + (V25 (V25 x0 17) (V25 x0 41))) z32) (fun z34 S34 V34 mc34 ms34 => Q 0 S34 V34))))) ∧ (¬ ((V25 x0 46) ≤ 0) → Q 0 S25 V25))))) ∧ (¬ ((V10 (V10 x0 17) (V10 x0 41)) ≠ 4) → CT l G bX12_fault d mc10 ms10 [vr x0, vi 5] S10 V10 (fun z36 S36 V36 mc36 ms36 => Q 0 S36 V36))))) ∧ (¬ (z7 = 0) → S7.1 x0 = 13 ∧ S7.1 (V7 x0 16) = 20 ∧ 0 ≤ (V7 x0 41) ∧ (V7 x0 41) < S7.2.1 (V7 x0 16) ∧ ((V7 (V7 x0 16) (V7 x0 41)) ≠ 3 → CT l G bX12_next d mc7 ms7 [vr x0] S7 V7 (fun z39 S39 V39 mc39 ms39 => S39.1 x0 = 13 ∧ -2147483648 ≤ 3 * (V39 x0 41) ∧ 3 * (V39 x0 41) ≤ 2147483647 ∧ S39.1 (V39 x0 16) = 20 ∧ 0 ≤ (V39 x0 41) ∧ (V39 x0 41) < S39.2.1 (V39 x0 16) ∧ -2147483648 ≤ (3 * (V39 x0 41)) + (V39 (V39 x0 16) (V39 x0 41)) ∧ (3 * (V39 x0 41)) + (V39 (V39 x0 16) (V39 x0 41)) ≤ 2147483647 ∧ CT l G bX12_readExpr d mc39 ms39 [vr x0, vi 0, vi 0, vi 0] S39 V39 (fun z41 S41 V41 mc41 ms41 => S41.1 (V39 x0 26) = 20 ∧ 0 ≤ ((3 * (V39 x0 41)) + (V39 (V39 x0 16) (V39 x0 41))) ∧ ((3 * (V39 x0 41)) + (V39 (V39 x0 16) (V39 x0 41))) < S41.2.1 (V39 x0 26) ∧ S41.1 x0 = 13 ∧ S41.1 (V41 x0 16) = 20 ∧ 0 ≤ (V41 x0 41) ∧ (V41 x0 41) < S41.2.1 (V41 x0 16) ∧ -2147483648 ≤ ((up V41 (V39 x0 26) ((3 * (V39 x0 41)) + (V39 (V39 x0 16) (V39 x0 41))) z41) (V41 x0 16) (V41 x0 41)) + 1 ∧ ((up V41 (V39 x0 26) ((3 * (V39 x0 41)) + (V39 (V39 x0 16) (V39 x0 41))) z41) (V41 x0 16) (V41 x0 41)) + 1 ≤ 2147483647 ∧ CT l G bX12_sign d mc41 ms41 [vr x0, vi 59] S41 (up (up V41 (V39 x0 26) ((3 * (V39 x0 41)) + (V39 (V39 x0 16) (V39 x0 41))) z41) (V41 x0 16) (V41 x0 41) (((up V41 (V39 x0 26) ((3 * (V39 x0 41)) + (V39 (V39 x0 16) (V39 x0 41))) z41) (V41 x0 16) (V41 x0 41)) + 1)) (fun z43 S43 V43 mc43 ms43 => Q 0 S43 V43)))) ∧ (¬ ((V7 (V7 x0 16) (V7 x0 41)) ≠ 3) → CT l G bX12_fault d mc7 ms7 [vr x0, vi 5] S7 V7 (fun z45 S45 V45 mc45 ms45 => Q 0 S45 V45))))) ∧ (¬ (z4 = 0) → S4.1 x0 = 13 ∧ CT l G bX12_readTable d mc4 ms4 [vr x0] S4 V4 (fun z47 S47 V47 mc47 ms47 => Q 0 S47 V47)))) ∧ (¬ (z1 = 0) → S1.1 x0 = 13 ∧ CT l G bX12_readAct d mc1 ms1 [vr x0, vi (-1)] S1 V1 (fun z49 S49 V49 mc49 ms49 => Q 0 S49 V49)))) : XJ l G bX12_readMember Q d 0 [vr x0, vu, vu] [] S V mc ms := by
  refine X_aload_n dX12_readMember_0 rfl ?_
  refine X_ldcS (i := 5) dX12_readMember_1 (by decide) ⟨rfl, rfl⟩ ?_
  refine X_invV (ci := 12) (as := [vr ((G.2.2.2.1 5 : Int) + 1)]) (st := []) okX12_isWord dX12_readMember_3 km_RX12_235 rfl rfl (Nat.le_of_ble_eq_true rfl) rfl rfl h.1 (CT.imp h.2 (fun z1 S1 V1 mc1 ms1 hc2 => ?_))
  refine X_if_eq dX12_readMember_6 (tgt := 17) rfl (fun c3 => ?_) (fun c3 => ?_)
  · refine X_aload_n dX12_readMember_17 rfl ?_
    refine X_ldcS (i := 6) dX12_readMember_18 (by decide) ⟨rfl, rfl⟩ ?_
    refine X_invV (ci := 12) (as := [vr ((G.2.2.2.1 6 : Int) + 1)]) (st := []) okX12_isWord dX12_readMember_20 km_RX12_235 rfl rfl (Nat.le_of_ble_eq_true rfl) rfl rfl (hc2.1 c3).1 (CT.imp (hc2.1 c3).2 (fun z4 S4 V4 mc4 ms4 hc5 => ?_))
    refine X_if_eq dX12_readMember_23 (tgt := 33) rfl (fun c6 => ?_) (fun c6 => ?_)
    · refine X_aload_n dX12_readMember_33 rfl ?_
      refine X_ldcS (i := 7) dX12_readMember_34 (by decide) ⟨rfl, rfl⟩ ?_
      refine X_invV (ci := 12) (as := [vr ((G.2.2.2.1 7 : Int) + 1)]) (st := []) okX12_isWord dX12_readMember_36 km_RX12_235 rfl rfl (Nat.le_of_ble_eq_true rfl) rfl rfl (hc5.1 c6).1 (CT.imp (hc5.1 c6).2 (fun z7 S7 V7 mc7 ms7 hc8 => ?_))
      refine X_if_eq dX12_readMember_39 (tgt := 116) rfl (fun c9 => ?_) (fun c9 => ?_)
      · refine X_aload_n dX12_readMember_116 rfl ?_
        refine X_ldcS (i := 8) dX12_readMember_117 (by decide) ⟨rfl, rfl⟩ ?_
        refine X_invV (ci := 12) (as := [vr ((G.2.2.2.1 8 : Int) + 1)]) (st := []) okX12_isWord dX12_readMember_119 km_RX12_235 rfl rfl (Nat.le_of_ble_eq_true rfl) rfl rfl (hc8.1 c9).1 (CT.imp (hc8.1 c9).2 (fun z10 S10 V10 mc10 ms10 hc11 => ?_))
        refine X_if_eq dX12_readMember_122 (tgt := 235) rfl (fun c12 => ?_) (fun c12 => ?_)
        · refine X_aload_n dX12_readMember_235 rfl ?_
          refine X_ldcS (i := 9) dX12_readMember_236 (by decide) ⟨rfl, rfl⟩ ?_
          refine X_invV (ci := 12) (as := [vr ((G.2.2.2.1 9 : Int) + 1)]) (st := []) okX12_isWord dX12_readMember_238 km_RX12_235 rfl rfl (Nat.le_of_ble_eq_true rfl) rfl rfl (hc11.1 c12).1 (CT.imp (hc11.1 c12).2 (fun z13 S13 V13 mc13 ms13 hc14 => ?_))
          refine X_if_eq dX12_readMember_241 (tgt := 251) rfl (fun c15 => ?_) (fun c15 => ?_)
          · refine X_aload_n dX12_readMember_251 rfl ?_
            refine X_iconst dX12_readMember_252 (by decide) ?_
            refine X_invV (ci := 12) (as := [vi 2]) (st := []) okX12_fault dX12_readMember_253 km_RX12_288 rfl rfl (Nat.le_of_ble_eq_true rfl) rfl rfl (hc14.1 c15).1 (CT.imp (hc14.1 c15).2 (fun z16 S16 V16 mc16 ms16 hc17 => ?_))
            refine X_istore_n dX12_readMember_256 (by decide) rfl ?_
            exact X_ret (z := 0) dX12_readMember_257 rfl (fun _ => trivial) hc17
          · refine X_aload_n dX12_readMember_244 rfl ?_
            refine X_invV (ci := 12) (as := []) (st := []) okX12_readSwitch dX12_readMember_245 km_RX12_341 rfl rfl (Nat.le_of_ble_eq_true rfl) rfl rfl (hc14.2 c15).1 (CT.imp (hc14.2 c15).2 (fun z18 S18 V18 mc18 ms18 hc19 => ?_))
            refine X_goto dX12_readMember_248 (tgt := 257) rfl ?_
            exact X_ret (z := 0) dX12_readMember_257 rfl (fun _ => trivial) hc19
        · refine X_aload_n dX12_readMember_125 rfl ?_
          refine X_getfield (ci := 12) (k := 17) (v := vr (V10 x0 17)) dX12_readMember_126 rfl (by decide) kf_RX12_38 rfl (hc11.2 c12).1 ?_
          refine X_aload_n dX12_readMember_129 rfl ?_
          refine X_getfield (ci := 12) (k := 41) (v := vi (V10 x0 41)) dX12_readMember_130 rfl (by decide) kf_RX12_269 rfl (hc11.2 c12).1 ?_
          refine X_iaload dX12_readMember_133 (hc11.2 c12).2.1 (hc11.2 c12).2.2.1 (hc11.2 c12).2.2.2.1 ?_
          refine X_iconst dX12_readMember_134 (by decide) ?_
          refine X_icmp_ne dX12_readMember_135 (tgt := 145) rfl (fun c20 => ?_) (fun c20 => ?_)
          · refine X_aload_n dX12_readMember_145 rfl ?_
            refine X_invV (ci := 12) (as := []) (st := []) okX12_next dX12_readMember_146 km_RX12_285 rfl rfl (Nat.le_of_ble_eq_true rfl) rfl rfl (hc11.2 c12).1 (CT.imp ((hc11.2 c12).2.2.2.2.1 c20) (fun z21 S21 V21 mc21 ms21 hc22 => ?_))
            refine X_aload_n dX12_readMember_149 rfl ?_
            refine X_aload_n dX12_readMember_150 rfl ?_
            refine X_invV (ci := 12) (as := []) (st := [vr x0]) okX12_tells dX12_readMember_151 km_RX12_328 rfl rfl (Nat.le_of_ble_eq_true rfl) rfl rfl hc22.1 (CT.imp hc22.2 (fun z23 S23 V23 mc23 ms23 hc24 => ?_))
            refine X_invV (ci := 12) (as := [vi z23]) (st := []) okX12_newName dX12_readMember_154 km_RX12_314 rfl rfl (Nat.le_of_ble_eq_true rfl) rfl rfl hc24.1 (CT.imp hc24.2 (fun z25 S25 V25 mc25 ms25 hc26 => ?_))
            refine X_istore_n dX12_readMember_157 (by decide) rfl ?_
            refine X_aload_n dX12_readMember_158 rfl ?_
            refine X_getfield (ci := 12) (k := 46) (v := vi (V25 x0 46)) dX12_readMember_159 rfl (by decide) kf_RX12_275 rfl hc26.1 ?_
            refine X_if_le dX12_readMember_162 (tgt := 166) rfl (fun c27 => ?_) (fun c27 => ?_)
            · refine X_iconst dX12_readMember_166 (by decide) ?_
              refine X_aload_n dX12_readMember_167 rfl ?_
              refine X_getfield (ci := 12) (k := 41) (v := vi (V25 x0 41)) dX12_readMember_168 rfl (by decide) kf_RX12_269 rfl hc26.1 ?_
              refine X_imulN dX12_readMember_171 (hc26.2.1 c27).1 (hc26.2.1 c27).2.1 ?_
              refine X_aload_n dX12_readMember_172 rfl ?_
              refine X_getfield (ci := 12) (k := 17) (v := vr (V25 x0 17)) dX12_readMember_173 rfl (by decide) kf_RX12_38 rfl hc26.1 ?_
              refine X_aload_n dX12_readMember_176 rfl ?_
              refine X_getfield (ci := 12) (k := 41) (v := vi (V25 x0 41)) dX12_readMember_177 rfl (by decide) kf_RX12_269 rfl hc26.1 ?_
              refine X_iaload dX12_readMember_180 (hc26.2.1 c27).2.2.1 (hc26.2.1 c27).2.2.2.1 (hc26.2.1 c27).2.2.2.2.1 ?_
              refine X_iaddN dX12_readMember_181 (hc26.2.1 c27).2.2.2.2.2.1 (hc26.2.1 c27).2.2.2.2.2.2.1 ?_
              refine X_istore_n dX12_readMember_182 (by decide) rfl ?_
              refine X_aload_n dX12_readMember_183 rfl ?_
              refine X_getfield (ci := 12) (k := 27) (v := vr (V25 x0 27)) dX12_readMember_184 rfl (by decide) kf_RX12_68 rfl hc26.1 ?_
              refine X_iload_n dX12_readMember_187 rfl ?_
              refine X_iload_n dX12_readMember_188 rfl ?_
              refine X_iastore dX12_readMember_189 (hc26.2.1 c27).2.2.2.2.2.2.2.1 (hc26.2.1 c27).2.2.2.2.2.2.2.2.1 (hc26.2.1 c27).2.2.2.2.2.2.2.2.2.1 ?_
              refine X_aload_n dX12_readMember_190 rfl ?_
              refine X_getfield (ci := 12) (k := 17) (v := vr (V25 x0 17)) dX12_readMember_191 rfl (by decide) kf_RX12_38 (congrArg vr (up_ne (Or.inl (tag_ne hc26.1 (hc26.2.1 c27).2.2.2.2.2.2.2.1 (by decide))))) hc26.1 ?_
              refine X_aload_n dX12_readMember_194 rfl ?_
              refine X_getfield (ci := 12) (k := 41) (v := vi (V25 x0 41)) dX12_readMember_195 rfl (by decide) kf_RX12_269 (congrArg vi (up_ne (Or.inl (tag_ne hc26.1 (hc26.2.1 c27).2.2.2.2.2.2.2.1 (by decide))))) hc26.1 ?_
              refine X_dup2 dX12_readMember_198 rfl (rv_cat _) ?_
              refine X_iaload dX12_readMember_199 (hc26.2.1 c27).2.2.1 (hc26.2.1 c27).2.2.2.1 (hc26.2.1 c27).2.2.2.2.1 ?_
              refine X_iconst dX12_readMember_200 (by decide) ?_
              refine X_iaddN dX12_readMember_201 (hc26.2.1 c27).2.2.2.2.2.2.2.2.2.2.1 (hc26.2.1 c27).2.2.2.2.2.2.2.2.2.2.2.1 ?_
              refine X_iastore dX12_readMember_202 (hc26.2.1 c27).2.2.1 (hc26.2.1 c27).2.2.2.1 (hc26.2.1 c27).2.2.2.2.1 ?_
              refine X_aload_n dX12_readMember_203 rfl ?_
              refine X_invV (ci := 12) (as := []) (st := []) okX12_next dX12_readMember_204 km_RX12_285 rfl rfl (Nat.le_of_ble_eq_true rfl) rfl rfl hc26.1 (CT.imp (hc26.2.1 c27).2.2.2.2.2.2.2.2.2.2.2.2 (fun z28 S28 V28 mc28 ms28 hc29 => ?_))
              refine X_aload_n dX12_readMember_207 rfl ?_
              refine X_bipush dX12_readMember_208 (by decide) (by decide) ?_
              refine X_invV (ci := 12) (as := [vi 61]) (st := []) okX12_sign dX12_readMember_210 km_RX12_318 rfl rfl (Nat.le_of_ble_eq_true rfl) rfl rfl hc29.1 (CT.imp hc29.2 (fun z30 S30 V30 mc30 ms30 hc31 => ?_))
              refine X_aload_n dX12_readMember_213 rfl ?_
              refine X_getfield (ci := 12) (k := 28) (v := vr (V30 x0 28)) dX12_readMember_214 rfl (by decide) kf_RX12_71 rfl hc31.1 ?_
              refine X_iload_n dX12_readMember_217 rfl ?_
              refine X_aload_n dX12_readMember_218 rfl ?_
              refine X_iconst dX12_readMember_219 (by decide) ?_
              refine X_iconst dX12_readMember_220 (by decide) ?_
              refine X_iconst dX12_readMember_221 (by decide) ?_
              refine X_invV (ci := 12) (as := [vi 0, vi 0, vi 0]) (st := [vi ((4 * (V25 x0 41)) + (V25 (V25 x0 17) (V25 x0 41))), vr (V30 x0 28)]) okX12_readExpr dX12_readMember_222 km_RX12_331 rfl rfl (Nat.le_of_ble_eq_true rfl) rfl rfl hc31.1 (CT.imp hc31.2 (fun z32 S32 V32 mc32 ms32 hc33 => ?_))
              refine X_iastore dX12_readMember_225 hc33.1 hc33.2.1 hc33.2.2.1 ?_
              refine X_aload_n dX12_readMember_226 rfl ?_
              refine X_bipush dX12_readMember_227 (by decide) (by decide) ?_
              refine X_invV (ci := 12) (as := [vi 59]) (st := []) okX12_sign dX12_readMember_229 km_RX12_318 rfl rfl (Nat.le_of_ble_eq_true rfl) rfl rfl hc33.2.2.2.1 (CT.imp hc33.2.2.2.2 (fun z34 S34 V34 mc34 ms34 hc35 => ?_))
              refine X_goto dX12_readMember_232 (tgt := 257) rfl ?_
              exact X_ret (z := 0) dX12_readMember_257 rfl (fun _ => trivial) hc35
            · exact X_ret (z := 0) dX12_readMember_165 rfl (fun _ => trivial) (hc26.2.2 c27)
          · refine X_aload_n dX12_readMember_138 rfl ?_
            refine X_iconst dX12_readMember_139 (by decide) ?_
            refine X_invV (ci := 12) (as := [vi 5]) (st := []) okX12_fault dX12_readMember_140 km_RX12_288 rfl rfl (Nat.le_of_ble_eq_true rfl) rfl rfl (hc11.2 c12).1 (CT.imp ((hc11.2 c12).2.2.2.2.2 c20) (fun z36 S36 V36 mc36 ms36 hc37 => ?_))
            refine X_istore_n dX12_readMember_143 (by decide) rfl ?_
            exact X_ret (z := 0) dX12_readMember_144 rfl (fun _ => trivial) hc37
      · refine X_aload_n dX12_readMember_42 rfl ?_
        refine X_getfield (ci := 12) (k := 16) (v := vr (V7 x0 16)) dX12_readMember_43 rfl (by decide) kf_RX12_35 rfl (hc8.2 c9).1 ?_
        refine X_aload_n dX12_readMember_46 rfl ?_
        refine X_getfield (ci := 12) (k := 41) (v := vi (V7 x0 41)) dX12_readMember_47 rfl (by decide) kf_RX12_269 rfl (hc8.2 c9).1 ?_
        refine X_iaload dX12_readMember_50 (hc8.2 c9).2.1 (hc8.2 c9).2.2.1 (hc8.2 c9).2.2.2.1 ?_
        refine X_iconst dX12_readMember_51 (by decide) ?_
        refine X_icmp_ne dX12_readMember_52 (tgt := 62) rfl (fun c38 => ?_) (fun c38 => ?_)
        · refine X_aload_n dX12_readMember_62 rfl ?_
          refine X_invV (ci := 12) (as := []) (st := []) okX12_next dX12_readMember_63 km_RX12_285 rfl rfl (Nat.le_of_ble_eq_true rfl) rfl rfl (hc8.2 c9).1 (CT.imp ((hc8.2 c9).2.2.2.2.1 c38) (fun z39 S39 V39 mc39 ms39 hc40 => ?_))
          refine X_aload_n dX12_readMember_66 rfl ?_
          refine X_getfield (ci := 12) (k := 26) (v := vr (V39 x0 26)) dX12_readMember_67 rfl (by decide) kf_RX12_65 rfl hc40.1 ?_
          refine X_iconst dX12_readMember_70 (by decide) ?_
          refine X_aload_n dX12_readMember_71 rfl ?_
          refine X_getfield (ci := 12) (k := 41) (v := vi (V39 x0 41)) dX12_readMember_72 rfl (by decide) kf_RX12_269 rfl hc40.1 ?_
          refine X_imulN dX12_readMember_75 hc40.2.1 hc40.2.2.1 ?_
          refine X_aload_n dX12_readMember_76 rfl ?_
          refine X_getfield (ci := 12) (k := 16) (v := vr (V39 x0 16)) dX12_readMember_77 rfl (by decide) kf_RX12_35 rfl hc40.1 ?_
          refine X_aload_n dX12_readMember_80 rfl ?_
          refine X_getfield (ci := 12) (k := 41) (v := vi (V39 x0 41)) dX12_readMember_81 rfl (by decide) kf_RX12_269 rfl hc40.1 ?_
          refine X_iaload dX12_readMember_84 hc40.2.2.2.1 hc40.2.2.2.2.1 hc40.2.2.2.2.2.1 ?_
          refine X_iaddN dX12_readMember_85 hc40.2.2.2.2.2.2.1 hc40.2.2.2.2.2.2.2.1 ?_
          refine X_aload_n dX12_readMember_86 rfl ?_
          refine X_iconst dX12_readMember_87 (by decide) ?_
          refine X_iconst dX12_readMember_88 (by decide) ?_
          refine X_iconst dX12_readMember_89 (by decide) ?_
          refine X_invV (ci := 12) (as := [vi 0, vi 0, vi 0]) (st := [vi ((3 * (V39 x0 41)) + (V39 (V39 x0 16) (V39 x0 41))), vr (V39 x0 26)]) okX12_readExpr dX12_readMember_90 km_RX12_331 rfl rfl (Nat.le_of_ble_eq_true rfl) rfl rfl hc40.1 (CT.imp hc40.2.2.2.2.2.2.2.2 (fun z41 S41 V41 mc41 ms41 hc42 => ?_))
          refine X_iastore dX12_readMember_93 hc42.1 hc42.2.1 hc42.2.2.1 ?_
          refine X_aload_n dX12_readMember_94 rfl ?_
          refine X_getfield (ci := 12) (k := 16) (v := vr (V41 x0 16)) dX12_readMember_95 rfl (by decide) kf_RX12_35 (congrArg vr (up_ne (Or.inl (tag_ne hc42.2.2.2.1 hc42.1 (by decide))))) hc42.2.2.2.1 ?_
          refine X_aload_n dX12_readMember_98 rfl ?_
          refine X_getfield (ci := 12) (k := 41) (v := vi (V41 x0 41)) dX12_readMember_99 rfl (by decide) kf_RX12_269 (congrArg vi (up_ne (Or.inl (tag_ne hc42.2.2.2.1 hc42.1 (by decide))))) hc42.2.2.2.1 ?_
          refine X_dup2 dX12_readMember_102 rfl (rv_cat _) ?_
          refine X_iaload dX12_readMember_103 hc42.2.2.2.2.1 hc42.2.2.2.2.2.1 hc42.2.2.2.2.2.2.1 ?_
          refine X_iconst dX12_readMember_104 (by decide) ?_
          refine X_iaddN dX12_readMember_105 hc42.2.2.2.2.2.2.2.1 hc42.2.2.2.2.2.2.2.2.1 ?_
          refine X_iastore dX12_readMember_106 hc42.2.2.2.2.1 hc42.2.2.2.2.2.1 hc42.2.2.2.2.2.2.1 ?_
          refine X_aload_n dX12_readMember_107 rfl ?_
          refine X_bipush dX12_readMember_108 (by decide) (by decide) ?_
          refine X_invV (ci := 12) (as := [vi 59]) (st := []) okX12_sign dX12_readMember_110 km_RX12_318 rfl rfl (Nat.le_of_ble_eq_true rfl) rfl rfl hc42.2.2.2.1 (CT.imp hc42.2.2.2.2.2.2.2.2.2 (fun z43 S43 V43 mc43 ms43 hc44 => ?_))
          refine X_goto dX12_readMember_113 (tgt := 257) rfl ?_
          exact X_ret (z := 0) dX12_readMember_257 rfl (fun _ => trivial) hc44
        · refine X_aload_n dX12_readMember_55 rfl ?_
          refine X_iconst dX12_readMember_56 (by decide) ?_
          refine X_invV (ci := 12) (as := [vi 5]) (st := []) okX12_fault dX12_readMember_57 km_RX12_288 rfl rfl (Nat.le_of_ble_eq_true rfl) rfl rfl (hc8.2 c9).1 (CT.imp ((hc8.2 c9).2.2.2.2.2 c38) (fun z45 S45 V45 mc45 ms45 hc46 => ?_))
          refine X_istore_n dX12_readMember_60 (by decide) rfl ?_
          exact X_ret (z := 0) dX12_readMember_61 rfl (fun _ => trivial) hc46
    · refine X_aload_n dX12_readMember_26 rfl ?_
      refine X_invV (ci := 12) (as := []) (st := []) okX12_readTable dX12_readMember_27 km_RX12_338 rfl rfl (Nat.le_of_ble_eq_true rfl) rfl rfl (hc5.2 c6).1 (CT.imp (hc5.2 c6).2 (fun z47 S47 V47 mc47 ms47 hc48 => ?_))
      refine X_goto dX12_readMember_30 (tgt := 257) rfl ?_
      exact X_ret (z := 0) dX12_readMember_257 rfl (fun _ => trivial) hc48
  · refine X_aload_n dX12_readMember_9 rfl ?_
    refine X_iconst dX12_readMember_10 (by decide) ?_
    refine X_invV (ci := 12) (as := [vi (-1)]) (st := []) okX12_readAct dX12_readMember_11 km_RX12_335 rfl rfl (Nat.le_of_ble_eq_true rfl) rfl rfl (hc2.2 c3).1 (CT.imp (hc2.2 c3).2 (fun z49 S49 V49 mc49 ms49 hc50 => ?_))
    refine X_goto dX12_readMember_14 (tgt := 257) rfl ?_
    exact X_ret (z := 0) dX12_readMember_257 rfl (fun _ => trivial) hc50
theorem qX12_readMember {l : Launch} {G : GT} {Q : Int → Sh → Mem → Prop} {d : Nat} {S : Sh} {V : Mem} {mc ms : Nat} {x0 : Int} (h : 0 ≤ x0 → XJ l G bX12_readMember Q d 0 [vr x0, vu, vu] [] S V mc ms) : Ct l G bX12_readMember Q d mc ms [vr x0] S V := Ct.of okX12_readMember.1 trivial (Nat.le_of_ble_eq_true rfl) (fun hv => h (hv _ (List.mem_of_getElem? (i := 0) rfl)))
set_option maxRecDepth 10000 in
theorem vX12_readTable_0 {l : Launch} {G : GT} {Q : Int → Sh → Mem → Prop} {d : Nat} {S : Sh} {V : Mem} {mc ms : Nat} {x0 : Int} (h : S.1 x0 = 13 ∧ S.1 (V x0 15) = 20 ∧ 0 ≤ (V x0 41) ∧ (V x0 41) < S.2.1 (V x0 15) ∧ ((V (V x0 15) (V x0 41)) ≠ 4 → CT l G bX12_next d mc ms [vr x0] S V (fun z2 S2 V2 mc2 ms2 => S2.1 x0 = 13 ∧ CT l G bX12_tells d mc2 ms2 [vr x0] S2 V2 (fun z4 S4 V4 mc4 ms4 => S4.1 x0 = 13 ∧ CT l G bX12_newName d mc4 ms4 [vr x0, vi z4] S4 V4 (fun z6 S6 V6 mc6 ms6 => S6.1 x0 = 13 ∧ ((V6 x0 46) ≤ 0 → -2147483648 ≤ 4 * (V6 x0 41) ∧ 4 * (V6 x0 41) ≤ 2147483647 ∧ S6.1 (V6 x0 15) = 20 ∧ 0 ≤ (V6 x0 41) ∧ (V6 x0 41) < S6.2.1 (V6 x0 15) ∧ -2147483648 ≤ (4 * (V6 x0 41)) + (V6 (V6 x0 15) (V6 x0 41)) ∧ (4 * (V6 x0 41)) + (V6 (V6 x0 15) (V6 x0 41)) ≤ 2147483647 ∧ S6.1 (V6 x0 23) = 20 ∧ 0 ≤ ((4 * (V6 x0 41)) + (V6 (V6 x0 15) (V6 x0 41))) ∧ ((4 * (V6 x0 41)) + (V6 (V6 x0 15) (V6 x0 41))) < S6.2.1 (V6 x0 23) ∧ S6.1 (V6 x0 24) = 20 ∧ ((4 * (V6 x0 41)) + (V6 (V6 x0 15) (V6 x0 41))) < S6.2.1 (V6 x0 24) ∧ -2147483648 ≤ ((up (up V6 (V6 x0 23) ((4 * (V6 x0 41)) + (V6 (V6 x0 15) (V6 x0 41))) z6) (V6 x0 24) ((4 * (V6 x0 41)) + (V6 (V6 x0 15) (V6 x0 41))) 0) (V6 x0 15) (V6 x0 41)) + 1 ∧ ((up (up V6 (V6 x0 23) ((4 * (V6 x0 41)) + (V6 (V6 x0 15) (V6 x0 41))) z6) (V6 x0 24) ((4 * (V6 x0 41)) + (V6 (V6 x0 15) (V6 x0 41))) 0) (V6 x0 15) (V6 x0 41)) + 1 ≤ 2147483647 ∧ CT l G bX12_next d mc6 ms6 [vr x0] S6 (up (up (up V6 (V6 x0 23) ((4 * (V6 x0 41)) + (V6 (V6 x0 15) (V6 x0 41))) z6) (V6 x0 24) ((4 * (V6 x0 41)) + (V6 (V6 x0 15) (V6 x0 41))) 0) (V6 x0 15) (V6 x0 41) (((up (up V6 (V6 x0 23) ((4 * (V6 x0 41)) + (V6 (V6 x0 15) (V6 x0 41))) z6) (V6 x0 24) ((4 * (V6 x0 41)) + (V6 (V6 x0 15) (V6 x0 41))) 0) (V6 x0 15) (V6 x0 41)) + 1)) (fun z9 S9 V9 mc9 ms9 => S9.1 x0 = 13 ∧ CT l G bX12_sign d mc9 ms9 [vr x0, vi 61] S9 V9 (fun z11 S11 V11 mc11 ms11 => S11.1 x0 = 13 ∧ CT l G bX12_sign d mc11 ms11 [vr x0, vi 91] S11 V11 (fun z13 S13 V13 mc13 ms13 => S13.1 x0 = 13 ∧ CT l G bX12_readEntry d mc13 ms13 [vr x0, vi ((4 * (V6 x0 41)) + (V6 (V6 x0 15) (V6 x0 41)))] S13 V13 (fun z15 S15 V15 mc15 ms15 => XJ l G bX12_readTable Q d 106 [vr x0, vi z6, vi ((4 * (V6 x0 41)) + (V6 (V6 x0 15) (V6 x0 41)))] [] S15 V15 mc15 ms15))))) ∧ (¬ ((V6 x0 46) ≤ 0) → Q 0 S6 V6))))) ∧ (¬ ((V (V x0 15) (V x0 41)) ≠ 4) → CT l G bX12_fault d mc ms [vr x0, vi 5] S V (fun z17 S17 V17 mc17 ms17 => Q 0 S17 V17))) : XJ l G bX12_readTable Q d 0 [vr x0, vu, vu] [] S V mc ms := by
  refine X_aload_n dX12_readTable_0 rfl ?_
  refine X_getfield (ci := 12) (k := 15) (v := vr (V x0 15)) dX12_readTable_1 rfl (by decide) kf_RX12_32 rfl h.1 ?_
  refine X_aload_n dX12_readTable_4 rfl ?_
  refine X_getfield (ci := 12) (k := 41) (v := vi (V x0 41)) dX12_readTable_5 rfl (by decide) kf_RX12_269 rfl h.1 ?_
  refine X_iaload dX12_readTable_8 h.2.1 h.2.2.1 h.2.2.2.1 ?_
  refine X_iconst dX12_readTable_9 (by decide) ?_
  refine X_icmp_ne dX12_readTable_10 (tgt := 20) rfl (fun c1 => ?_) (fun c1 => ?_)
  · refine X_aload_n dX12_readTable_20 rfl ?_
    refine X_invV (ci := 12) (as := []) (st := []) okX12_next dX12_readTable_21 km_RX12_285 rfl rfl (Nat.le_of_ble_eq_true rfl) rfl rfl h.1 (CT.imp (h.2.2.2.2.1 c1) (fun z2 S2 V2 mc2 ms2 hc3 => ?_))
    refine X_aload_n dX12_readTable_24 rfl ?_
    refine X_aload_n dX12_readTable_25 rfl ?_
    refine X_invV (ci := 12) (as := []) (st := [vr x0]) okX12_tells dX12_readTable_26 km_RX12_328 rfl rfl (Nat.le_of_ble_eq_true rfl) rfl rfl hc3.1 (CT.imp hc3.2 (fun z4 S4 V4 mc4 ms4 hc5 => ?_))
    refine X_invV (ci := 12) (as := [vi z4]) (st := []) okX12_newName dX12_readTable_29 km_RX12_314 rfl rfl (Nat.le_of_ble_eq_true rfl) rfl rfl hc5.1 (CT.imp hc5.2 (fun z6 S6 V6 mc6 ms6 hc7 => ?_))
    refine X_istore_n dX12_readTable_32 (by decide) rfl ?_
    refine X_aload_n dX12_readTable_33 rfl ?_
    refine X_getfield (ci := 12) (k := 46) (v := vi (V6 x0 46)) dX12_readTable_34 rfl (by decide) kf_RX12_275 rfl hc7.1 ?_
    refine X_if_le dX12_readTable_37 (tgt := 41) rfl (fun c8 => ?_) (fun c8 => ?_)
    · refine X_iconst dX12_readTable_41 (by decide) ?_
      refine X_aload_n dX12_readTable_42 rfl ?_
      refine X_getfield (ci := 12) (k := 41) (v := vi (V6 x0 41)) dX12_readTable_43 rfl (by decide) kf_RX12_269 rfl hc7.1 ?_
      refine X_imulN dX12_readTable_46 (hc7.2.1 c8).1 (hc7.2.1 c8).2.1 ?_
      refine X_aload_n dX12_readTable_47 rfl ?_
      refine X_getfield (ci := 12) (k := 15) (v := vr (V6 x0 15)) dX12_readTable_48 rfl (by decide) kf_RX12_32 rfl hc7.1 ?_
      refine X_aload_n dX12_readTable_51 rfl ?_
      refine X_getfield (ci := 12) (k := 41) (v := vi (V6 x0 41)) dX12_readTable_52 rfl (by decide) kf_RX12_269 rfl hc7.1 ?_
      refine X_iaload dX12_readTable_55 (hc7.2.1 c8).2.2.1 (hc7.2.1 c8).2.2.2.1 (hc7.2.1 c8).2.2.2.2.1 ?_
      refine X_iaddN dX12_readTable_56 (hc7.2.1 c8).2.2.2.2.2.1 (hc7.2.1 c8).2.2.2.2.2.2.1 ?_
      refine X_istore_n dX12_readTable_57 (by decide) rfl ?_
      refine X_aload_n dX12_readTable_58 rfl ?_
      refine X_getfield (ci := 12) (k := 23) (v := vr (V6 x0 23)) dX12_readTable_59 rfl (by decide) kf_RX12_56 rfl hc7.1 ?_
      refine X_iload_n dX12_readTable_62 rfl ?_
      refine X_iload_n dX12_readTable_63 rfl ?_
      refine X_iastore dX12_readTable_64 (hc7.2.1 c8).2.2.2.2.2.2.2.1 (hc7.2.1 c8).2.2.2.2.2.2.2.2.1 (hc7.2.1 c8).2.2.2.2.2.2.2.2.2.1 ?_
      refine X_aload_n dX12_readTable_65 rfl ?_
      refine X_getfield (ci := 12) (k := 24) (v := vr (V6 x0 24)) dX12_readTable_66 rfl (by decide) kf_RX12_59 (congrArg vr (up_ne (Or.inl (tag_ne hc7.1 (hc7.2.1 c8).2.2.2.2.2.2.2.1 (by decide))))) hc7.1 ?_
      refine X_iload_n dX12_readTable_69 rfl ?_
      refine X_iconst dX12_readTable_70 (by decide) ?_
      refine X_iastore dX12_readTable_71 (hc7.2.1 c8).2.2.2.2.2.2.2.2.2.2.1 (hc7.2.1 c8).2.2.2.2.2.2.2.2.1 (hc7.2.1 c8).2.2.2.2.2.2.2.2.2.2.2.1 ?_
      refine X_aload_n dX12_readTable_72 rfl ?_
      refine X_getfield (ci := 12) (k := 15) (v := vr (V6 x0 15)) dX12_readTable_73 rfl (by decide) kf_RX12_32 (congrArg vr ((up_ne (Or.inl (tag_ne hc7.1 (hc7.2.1 c8).2.2.2.2.2.2.2.2.2.2.1 (by decide)))).trans (up_ne (Or.inl (tag_ne hc7.1 (hc7.2.1 c8).2.2.2.2.2.2.2.1 (by decide)))))) hc7.1 ?_
      refine X_aload_n dX12_readTable_76 rfl ?_
      refine X_getfield (ci := 12) (k := 41) (v := vi (V6 x0 41)) dX12_readTable_77 rfl (by decide) kf_RX12_269 (congrArg vi ((up_ne (Or.inl (tag_ne hc7.1 (hc7.2.1 c8).2.2.2.2.2.2.2.2.2.2.1 (by decide)))).trans (up_ne (Or.inl (tag_ne hc7.1 (hc7.2.1 c8).2.2.2.2.2.2.2.1 (by decide)))))) hc7.1 ?_
      refine X_dup2 dX12_readTable_80 rfl (rv_cat _) ?_
      refine X_iaload dX12_readTable_81 (hc7.2.1 c8).2.2.1 (hc7.2.1 c8).2.2.2.1 (hc7.2.1 c8).2.2.2.2.1 ?_
      refine X_iconst dX12_readTable_82 (by decide) ?_
      refine X_iaddN dX12_readTable_83 (hc7.2.1 c8).2.2.2.2.2.2.2.2.2.2.2.2.1 (hc7.2.1 c8).2.2.2.2.2.2.2.2.2.2.2.2.2.1 ?_
      refine X_iastore dX12_readTable_84 (hc7.2.1 c8).2.2.1 (hc7.2.1 c8).2.2.2.1 (hc7.2.1 c8).2.2.2.2.1 ?_
      refine X_aload_n dX12_readTable_85 rfl ?_
      refine X_invV (ci := 12) (as := []) (st := []) okX12_next dX12_readTable_86 km_RX12_285 rfl rfl (Nat.le_of_ble_eq_true rfl) rfl rfl hc7.1 (CT.imp (hc7.2.1 c8).2.2.2.2.2.2.2.2.2.2.2.2.2.2 (fun z9 S9 V9 mc9 ms9 hc10 => ?_))
      refine X_aload_n dX12_readTable_89 rfl ?_
      refine X_bipush dX12_readTable_90 (by decide) (by decide) ?_
      refine X_invV (ci := 12) (as := [vi 61]) (st := []) okX12_sign dX12_readTable_92 km_RX12_318 rfl rfl (Nat.le_of_ble_eq_true rfl) rfl rfl hc10.1 (CT.imp hc10.2 (fun z11 S11 V11 mc11 ms11 hc12 => ?_))
      refine X_aload_n dX12_readTable_95 rfl ?_
      refine X_bipush dX12_readTable_96 (by decide) (by decide) ?_
      refine X_invV (ci := 12) (as := [vi 91]) (st := []) okX12_sign dX12_readTable_98 km_RX12_318 rfl rfl (Nat.le_of_ble_eq_true rfl) rfl rfl hc12.1 (CT.imp hc12.2 (fun z13 S13 V13 mc13 ms13 hc14 => ?_))
      refine X_aload_n dX12_readTable_101 rfl ?_
      refine X_iload_n dX12_readTable_102 rfl ?_
      refine X_invV (ci := 12) (as := [vi ((4 * (V6 x0 41)) + (V6 (V6 x0 15) (V6 x0 41)))]) (st := []) okX12_readEntry dX12_readTable_103 km_RX12_344 rfl rfl (Nat.le_of_ble_eq_true rfl) rfl rfl hc14.1 (CT.imp hc14.2 (fun z15 S15 V15 mc15 ms15 hc16 => ?_))
      exact hc16
    · exact X_ret (z := 0) dX12_readTable_40 rfl (fun _ => trivial) (hc7.2.2 c8)
  · refine X_aload_n dX12_readTable_13 rfl ?_
    refine X_iconst dX12_readTable_14 (by decide) ?_
    refine X_invV (ci := 12) (as := [vi 5]) (st := []) okX12_fault dX12_readTable_15 km_RX12_288 rfl rfl (Nat.le_of_ble_eq_true rfl) rfl rfl h.1 (CT.imp (h.2.2.2.2.2 c1) (fun z17 S17 V17 mc17 ms17 hc18 => ?_))
    refine X_istore_n dX12_readTable_18 (by decide) rfl ?_
    exact X_ret (z := 0) dX12_readTable_19 rfl (fun _ => trivial) hc18
set_option maxRecDepth 10000 in
theorem vX12_readTable_106 {l : Launch} {G : GT} {Q : Int → Sh → Mem → Prop} {d : Nat} {S : Sh} {V : Mem} {mc ms : Nat} {x0 x1 x2 : Int} (h : S.1 x0 = 13 ∧ ((V x0 46) ≠ 0 → CT l G bX12_sign d mc ms [vr x0, vi 93] S V (fun z2 S2 V2 mc2 ms2 => S2.1 x0 = 13 ∧ CT l G bX12_sign d mc2 ms2 [vr x0, vi 59] S2 V2 (fun z4 S4 V4 mc4 ms4 => Q 0 S4 V4))) ∧ (¬ ((V x0 46) ≠ 0) → CT l G bX12_isSign d mc ms [vr x0, vi 44] S V (fun z6 S6 V6 mc6 ms6 => (z6 = 0 → S6.1 x0 = 13 ∧ CT l G bX12_sign d mc6 ms6 [vr x0, vi 93] S6 V6 (fun z9 S9 V9 mc9 ms9 => S9.1 x0 = 13 ∧ CT l G bX12_sign d mc9 ms9 [vr x0, vi 59] S9 V9 (fun z11 S11 V11 mc11 ms11 => Q 0 S11 V11))) ∧ (¬ (z6 = 0) → S6.1 x0 = 13 ∧ CT l G bX12_next d mc6 ms6 [vr x0] S6 V6 (fun z13 S13 V13 mc13 ms13 => S13.1 x0 = 13 ∧ CT l G bX12_readEntry d mc13 ms13 [vr x0, vi x2] S13 V13 (fun z15 S15 V15 mc15 ms15 => XJ l G bX12_readTable Q d 106 [vr x0, vi x1, vi x2] [] S15 V15 mc15 ms15)))))) : XJ l G bX12_readTable Q d 106 [vr x0, vi x1, vi x2] [] S V mc ms := by
  refine X_aload_n dX12_readTable_106 rfl ?_
  refine X_getfield (ci := 12) (k := 46) (v := vi (V x0 46)) dX12_readTable_107 rfl (by decide) kf_RX12_275 rfl h.1 ?_
  refine X_if_ne dX12_readTable_110 (tgt := 134) rfl (fun c1 => ?_) (fun c1 => ?_)
  · refine X_aload_n dX12_readTable_134 rfl ?_
    refine X_bipush dX12_readTable_135 (by decide) (by decide) ?_
    refine X_invV (ci := 12) (as := [vi 93]) (st := []) okX12_sign dX12_readTable_137 km_RX12_318 rfl rfl (Nat.le_of_ble_eq_true rfl) rfl rfl h.1 (CT.imp (h.2.1 c1) (fun z2 S2 V2 mc2 ms2 hc3 => ?_))
    refine X_aload_n dX12_readTable_140 rfl ?_
    refine X_bipush dX12_readTable_141 (by decide) (by decide) ?_
    refine X_invV (ci := 12) (as := [vi 59]) (st := []) okX12_sign dX12_readTable_143 km_RX12_318 rfl rfl (Nat.le_of_ble_eq_true rfl) rfl rfl hc3.1 (CT.imp hc3.2 (fun z4 S4 V4 mc4 ms4 hc5 => ?_))
    exact X_ret (z := 0) dX12_readTable_146 rfl (fun _ => trivial) hc5
  · refine X_aload_n dX12_readTable_113 rfl ?_
    refine X_bipush dX12_readTable_114 (by decide) (by decide) ?_
    refine X_invV (ci := 12) (as := [vi 44]) (st := []) okX12_isSign dX12_readTable_116 km_RX12_281 rfl rfl (Nat.le_of_ble_eq_true rfl) rfl rfl h.1 (CT.imp (h.2.2 c1) (fun z6 S6 V6 mc6 ms6 hc7 => ?_))
    refine X_if_eq dX12_readTable_119 (tgt := 134) rfl (fun c8 => ?_) (fun c8 => ?_)
    · refine X_aload_n dX12_readTable_134 rfl ?_
      refine X_bipush dX12_readTable_135 (by decide) (by decide) ?_
      refine X_invV (ci := 12) (as := [vi 93]) (st := []) okX12_sign dX12_readTable_137 km_RX12_318 rfl rfl (Nat.le_of_ble_eq_true rfl) rfl rfl (hc7.1 c8).1 (CT.imp (hc7.1 c8).2 (fun z9 S9 V9 mc9 ms9 hc10 => ?_))
      refine X_aload_n dX12_readTable_140 rfl ?_
      refine X_bipush dX12_readTable_141 (by decide) (by decide) ?_
      refine X_invV (ci := 12) (as := [vi 59]) (st := []) okX12_sign dX12_readTable_143 km_RX12_318 rfl rfl (Nat.le_of_ble_eq_true rfl) rfl rfl hc10.1 (CT.imp hc10.2 (fun z11 S11 V11 mc11 ms11 hc12 => ?_))
      exact X_ret (z := 0) dX12_readTable_146 rfl (fun _ => trivial) hc12
    · refine X_aload_n dX12_readTable_122 rfl ?_
      refine X_invV (ci := 12) (as := []) (st := []) okX12_next dX12_readTable_123 km_RX12_285 rfl rfl (Nat.le_of_ble_eq_true rfl) rfl rfl (hc7.2 c8).1 (CT.imp (hc7.2 c8).2 (fun z13 S13 V13 mc13 ms13 hc14 => ?_))
      refine X_aload_n dX12_readTable_126 rfl ?_
      refine X_iload_n dX12_readTable_127 rfl ?_
      refine X_invV (ci := 12) (as := [vi x2]) (st := []) okX12_readEntry dX12_readTable_128 km_RX12_344 rfl rfl (Nat.le_of_ble_eq_true rfl) rfl rfl hc14.1 (CT.imp hc14.2 (fun z15 S15 V15 mc15 ms15 hc16 => ?_))
      refine X_goto dX12_readTable_131 (tgt := 106) rfl ?_
      exact hc16
theorem qX12_readTable {l : Launch} {G : GT} {Q : Int → Sh → Mem → Prop} {d : Nat} {S : Sh} {V : Mem} {mc ms : Nat} {x0 : Int} (h : 0 ≤ x0 → XJ l G bX12_readTable Q d 0 [vr x0, vu, vu] [] S V mc ms) : Ct l G bX12_readTable Q d mc ms [vr x0] S V := Ct.of okX12_readTable.1 trivial (Nat.le_of_ble_eq_true rfl) (fun hv => h (hv _ (List.mem_of_getElem? (i := 0) rfl)))
set_option maxRecDepth 10000 in
theorem vX12_readEntry_0 {l : Launch} {G : GT} {Q : Int → Sh → Mem → Prop} {d : Nat} {S : Sh} {V : Mem} {mc ms : Nat} {x0 x1 : Int} (h : S.1 x0 = 13 ∧ ((V x0 46) ≤ 0 → S.1 (V x0 24) = 20 ∧ 0 ≤ x1 ∧ x1 < S.2.1 (V x0 24) ∧ ((V (V x0 24) x1) ≠ 12 → CT l G bX12_beginsExpr d mc ms [vr x0] S V (fun z3 S3 V3 mc3 ms3 => (z3 ≠ 0 → -2147483648 ≤ 12 * x1 ∧ 12 * x1 ≤ 2147483647 ∧ S3.1 x0 = 13 ∧ S3.1 (V3 x0 24) = 20 ∧ 0 ≤ x1 ∧ x1 < S3.2.1 (V3 x0 24) ∧ -2147483648 ≤ (12 * x1) + (V3 (V3 x0 24) x1) ∧ (12 * x1) + (V3 (V3 x0 24) x1) ≤ 2147483647 ∧ -2147483648 ≤ (V3 (V3 x0 24) x1) + 1 ∧ (V3 (V3 x0 24) x1) + 1 ≤ 2147483647 ∧ CT l G bX12_readExpr d mc3 ms3 [vr x0, vi 0, vi 0, vi 0] S3 (up V3 (V3 x0 24) x1 ((V3 (V3 x0 24) x1) + 1)) (fun z6 S6 V6 mc6 ms6 => S6.1 (V3 x0 25) = 20 ∧ 0 ≤ ((12 * x1) + (V3 (V3 x0 24) x1)) ∧ ((12 * x1) + (V3 (V3 x0 24) x1)) < S6.2.1 (V3 x0 25) ∧ Q 0 S6 (up V6 (V3 x0 25) ((12 * x1) + (V3 (V3 x0 24) x1)) z6))) ∧ (¬ (z3 ≠ 0) → S3.1 x0 = 13 ∧ CT l G bX12_fault d mc3 ms3 [vr x0, vi 2] S3 V3 (fun z8 S8 V8 mc8 ms8 => Q 0 S8 V8)))) ∧ (¬ ((V (V x0 24) x1) ≠ 12) → CT l G bX12_beginsExpr d mc ms [vr x0] S V (fun z10 S10 V10 mc10 ms10 => (z10 = 0 → S10.1 x0 = 13 ∧ CT l G bX12_beginsExpr d mc10 ms10 [vr x0] S10 V10 (fun z13 S13 V13 mc13 ms13 => (z13 ≠ 0 → -2147483648 ≤ 12 * x1 ∧ 12 * x1 ≤ 2147483647 ∧ S13.1 x0 = 13 ∧ S13.1 (V13 x0 24) = 20 ∧ 0 ≤ x1 ∧ x1 < S13.2.1 (V13 x0 24) ∧ -2147483648 ≤ (12 * x1) + (V13 (V13 x0 24) x1) ∧ (12 * x1) + (V13 (V13 x0 24) x1) ≤ 2147483647 ∧ -2147483648 ≤ (V13 (V13 x0 24) x1) + 1 ∧ (V13 (V13 x0 24) x1) + 1 ≤ 2147483647 ∧ CT l G bX12_readExpr d mc13 ms13 [vr x0, vi 0, vi 0, vi 0] S13 (up V13 (V13 x0 24) x1 ((V13 (V13 x0 24) x1) + 1)) (fun z16 S16 V16 mc16 ms16 => S16.1 (V13 x0 25) = 20 ∧ 0 ≤ ((12 * x1) + (V13 (V13 x0 24) x1)) ∧ ((12 * x1) + (V13 (V13 x0 24) x1)) < S16.2.1 (V13 x0 25) ∧ Q 0 S16 (up V16 (V13 x0 25) ((12 * x1) + (V13 (V13 x0 24) x1)) z16))) ∧ (¬ (z13 ≠ 0) → S13.1 x0 = 13 ∧ CT l G bX12_fault d mc13 ms13 [vr x0, vi 2] S13 V13 (fun z18 S18 V18 mc18 ms18 => Q 0 S18 V18)))) ∧ (¬ (z10 = 0) → S10.1 x0 = 13 ∧ CT l G bX12_fault d mc10 ms10 [vr x0, vi 5] S10 V10 (fun z20 S20 V20 mc20 ms20 => Q 0 S20 V20))))) ∧ (¬ ((V x0 46) ≤ 0) → Q 0 S V)) : XJ l G bX12_readEntry Q d 0 [vr x0, vi x1, vu] [] S V mc ms := by
  refine X_aload_n dX12_readEntry_0 rfl ?_
  refine X_getfield (ci := 12) (k := 46) (v := vi (V x0 46)) dX12_readEntry_1 rfl (by decide) kf_RX12_275 rfl h.1 ?_
  refine X_if_le dX12_readEntry_4 (tgt := 8) rfl (fun c1 => ?_) (fun c1 => ?_)
  · refine X_aload_n dX12_readEntry_8 rfl ?_
    refine X_getfield (ci := 12) (k := 24) (v := vr (V x0 24)) dX12_readEntry_9 rfl (by decide) kf_RX12_59 rfl h.1 ?_
    refine X_iload_n dX12_readEntry_12 rfl ?_
    refine X_iaload dX12_readEntry_13 (h.2.1 c1).1 (h.2.1 c1).2.1 (h.2.1 c1).2.2.1 ?_
    refine X_bipush dX12_readEntry_14 (by decide) (by decide) ?_
    refine X_icmp_ne dX12_readEntry_16 (tgt := 33) rfl (fun c2 => ?_) (fun c2 => ?_)
    · refine X_aload_n dX12_readEntry_33 rfl ?_
      refine X_invV (ci := 12) (as := []) (st := []) okX12_beginsExpr dX12_readEntry_34 km_RX12_347 rfl rfl (Nat.le_of_ble_eq_true rfl) rfl rfl h.1 (CT.imp ((h.2.1 c1).2.2.2.1 c2) (fun z3 S3 V3 mc3 ms3 hc4 => ?_))
      refine X_if_ne dX12_readEntry_37 (tgt := 47) rfl (fun c5 => ?_) (fun c5 => ?_)
      · refine X_bipush dX12_readEntry_47 (by decide) (by decide) ?_
        refine X_iload_n dX12_readEntry_49 rfl ?_
        refine X_imulN dX12_readEntry_50 (hc4.1 c5).1 (hc4.1 c5).2.1 ?_
        refine X_aload_n dX12_readEntry_51 rfl ?_
        refine X_getfield (ci := 12) (k := 24) (v := vr (V3 x0 24)) dX12_readEntry_52 rfl (by decide) kf_RX12_59 rfl (hc4.1 c5).2.2.1 ?_
        refine X_iload_n dX12_readEntry_55 rfl ?_
        refine X_iaload dX12_readEntry_56 (hc4.1 c5).2.2.2.1 (hc4.1 c5).2.2.2.2.1 (hc4.1 c5).2.2.2.2.2.1 ?_
        refine X_iaddN dX12_readEntry_57 (hc4.1 c5).2.2.2.2.2.2.1 (hc4.1 c5).2.2.2.2.2.2.2.1 ?_
        refine X_istore_n dX12_readEntry_58 (by decide) rfl ?_
        refine X_aload_n dX12_readEntry_59 rfl ?_
        refine X_getfield (ci := 12) (k := 24) (v := vr (V3 x0 24)) dX12_readEntry_60 rfl (by decide) kf_RX12_59 rfl (hc4.1 c5).2.2.1 ?_
        refine X_iload_n dX12_readEntry_63 rfl ?_
        refine X_dup2 dX12_readEntry_64 rfl (rv_cat _) ?_
        refine X_iaload dX12_readEntry_65 (hc4.1 c5).2.2.2.1 (hc4.1 c5).2.2.2.2.1 (hc4.1 c5).2.2.2.2.2.1 ?_
        refine X_iconst dX12_readEntry_66 (by decide) ?_
        refine X_iaddN dX12_readEntry_67 (hc4.1 c5).2.2.2.2.2.2.2.2.1 (hc4.1 c5).2.2.2.2.2.2.2.2.2.1 ?_
        refine X_iastore dX12_readEntry_68 (hc4.1 c5).2.2.2.1 (hc4.1 c5).2.2.2.2.1 (hc4.1 c5).2.2.2.2.2.1 ?_
        refine X_aload_n dX12_readEntry_69 rfl ?_
        refine X_getfield (ci := 12) (k := 25) (v := vr (V3 x0 25)) dX12_readEntry_70 rfl (by decide) kf_RX12_62 (congrArg vr (up_ne (Or.inl (tag_ne (hc4.1 c5).2.2.1 (hc4.1 c5).2.2.2.1 (by decide))))) (hc4.1 c5).2.2.1 ?_
        refine X_iload_n dX12_readEntry_73 rfl ?_
        refine X_aload_n dX12_readEntry_74 rfl ?_
        refine X_iconst dX12_readEntry_75 (by decide) ?_
        refine X_iconst dX12_readEntry_76 (by decide) ?_
        refine X_iconst dX12_readEntry_77 (by decide) ?_
        refine X_invV (ci := 12) (as := [vi 0, vi 0, vi 0]) (st := [vi ((12 * x1) + (V3 (V3 x0 24) x1)), vr (V3 x0 25)]) okX12_readExpr dX12_readEntry_78 km_RX12_331 rfl rfl (Nat.le_of_ble_eq_true rfl) rfl rfl (hc4.1 c5).2.2.1 (CT.imp (hc4.1 c5).2.2.2.2.2.2.2.2.2.2 (fun z6 S6 V6 mc6 ms6 hc7 => ?_))
        refine X_iastore dX12_readEntry_81 hc7.1 hc7.2.1 hc7.2.2.1 ?_
        exact X_ret (z := 0) dX12_readEntry_82 rfl (fun _ => trivial) hc7.2.2.2
      · refine X_aload_n dX12_readEntry_40 rfl ?_
        refine X_iconst dX12_readEntry_41 (by decide) ?_
        refine X_invV (ci := 12) (as := [vi 2]) (st := []) okX12_fault dX12_readEntry_42 km_RX12_288 rfl rfl (Nat.le_of_ble_eq_true rfl) rfl rfl (hc4.2 c5).1 (CT.imp (hc4.2 c5).2 (fun z8 S8 V8 mc8 ms8 hc9 => ?_))
        refine X_istore_n dX12_readEntry_45 (by decide) rfl ?_
        exact X_ret (z := 0) dX12_readEntry_46 rfl (fun _ => trivial) hc9
    · refine X_aload_n dX12_readEntry_19 rfl ?_
      refine X_invV (ci := 12) (as := []) (st := []) okX12_beginsExpr dX12_readEntry_20 km_RX12_347 rfl rfl (Nat.le_of_ble_eq_true rfl) rfl rfl h.1 (CT.imp ((h.2.1 c1).2.2.2.2 c2) (fun z10 S10 V10 mc10 ms10 hc11 => ?_))
      refine X_if_eq dX12_readEntry_23 (tgt := 33) rfl (fun c12 => ?_) (fun c12 => ?_)
      · refine X_aload_n dX12_readEntry_33 rfl ?_
        refine X_invV (ci := 12) (as := []) (st := []) okX12_beginsExpr dX12_readEntry_34 km_RX12_347 rfl rfl (Nat.le_of_ble_eq_true rfl) rfl rfl (hc11.1 c12).1 (CT.imp (hc11.1 c12).2 (fun z13 S13 V13 mc13 ms13 hc14 => ?_))
        refine X_if_ne dX12_readEntry_37 (tgt := 47) rfl (fun c15 => ?_) (fun c15 => ?_)
        · refine X_bipush dX12_readEntry_47 (by decide) (by decide) ?_
          refine X_iload_n dX12_readEntry_49 rfl ?_
          refine X_imulN dX12_readEntry_50 (hc14.1 c15).1 (hc14.1 c15).2.1 ?_
          refine X_aload_n dX12_readEntry_51 rfl ?_
          refine X_getfield (ci := 12) (k := 24) (v := vr (V13 x0 24)) dX12_readEntry_52 rfl (by decide) kf_RX12_59 rfl (hc14.1 c15).2.2.1 ?_
          refine X_iload_n dX12_readEntry_55 rfl ?_
          refine X_iaload dX12_readEntry_56 (hc14.1 c15).2.2.2.1 (hc14.1 c15).2.2.2.2.1 (hc14.1 c15).2.2.2.2.2.1 ?_
          refine X_iaddN dX12_readEntry_57 (hc14.1 c15).2.2.2.2.2.2.1 (hc14.1 c15).2.2.2.2.2.2.2.1 ?_
          refine X_istore_n dX12_readEntry_58 (by decide) rfl ?_
          refine X_aload_n dX12_readEntry_59 rfl ?_
          refine X_getfield (ci := 12) (k := 24) (v := vr (V13 x0 24)) dX12_readEntry_60 rfl (by decide) kf_RX12_59 rfl (hc14.1 c15).2.2.1 ?_
          refine X_iload_n dX12_readEntry_63 rfl ?_
          refine X_dup2 dX12_readEntry_64 rfl (rv_cat _) ?_
          refine X_iaload dX12_readEntry_65 (hc14.1 c15).2.2.2.1 (hc14.1 c15).2.2.2.2.1 (hc14.1 c15).2.2.2.2.2.1 ?_
          refine X_iconst dX12_readEntry_66 (by decide) ?_
          refine X_iaddN dX12_readEntry_67 (hc14.1 c15).2.2.2.2.2.2.2.2.1 (hc14.1 c15).2.2.2.2.2.2.2.2.2.1 ?_
          refine X_iastore dX12_readEntry_68 (hc14.1 c15).2.2.2.1 (hc14.1 c15).2.2.2.2.1 (hc14.1 c15).2.2.2.2.2.1 ?_
          refine X_aload_n dX12_readEntry_69 rfl ?_
          refine X_getfield (ci := 12) (k := 25) (v := vr (V13 x0 25)) dX12_readEntry_70 rfl (by decide) kf_RX12_62 (congrArg vr (up_ne (Or.inl (tag_ne (hc14.1 c15).2.2.1 (hc14.1 c15).2.2.2.1 (by decide))))) (hc14.1 c15).2.2.1 ?_
          refine X_iload_n dX12_readEntry_73 rfl ?_
          refine X_aload_n dX12_readEntry_74 rfl ?_
          refine X_iconst dX12_readEntry_75 (by decide) ?_
          refine X_iconst dX12_readEntry_76 (by decide) ?_
          refine X_iconst dX12_readEntry_77 (by decide) ?_
          refine X_invV (ci := 12) (as := [vi 0, vi 0, vi 0]) (st := [vi ((12 * x1) + (V13 (V13 x0 24) x1)), vr (V13 x0 25)]) okX12_readExpr dX12_readEntry_78 km_RX12_331 rfl rfl (Nat.le_of_ble_eq_true rfl) rfl rfl (hc14.1 c15).2.2.1 (CT.imp (hc14.1 c15).2.2.2.2.2.2.2.2.2.2 (fun z16 S16 V16 mc16 ms16 hc17 => ?_))
          refine X_iastore dX12_readEntry_81 hc17.1 hc17.2.1 hc17.2.2.1 ?_
          exact X_ret (z := 0) dX12_readEntry_82 rfl (fun _ => trivial) hc17.2.2.2
        · refine X_aload_n dX12_readEntry_40 rfl ?_
          refine X_iconst dX12_readEntry_41 (by decide) ?_
          refine X_invV (ci := 12) (as := [vi 2]) (st := []) okX12_fault dX12_readEntry_42 km_RX12_288 rfl rfl (Nat.le_of_ble_eq_true rfl) rfl rfl (hc14.2 c15).1 (CT.imp (hc14.2 c15).2 (fun z18 S18 V18 mc18 ms18 hc19 => ?_))
          refine X_istore_n dX12_readEntry_45 (by decide) rfl ?_
          exact X_ret (z := 0) dX12_readEntry_46 rfl (fun _ => trivial) hc19
      · refine X_aload_n dX12_readEntry_26 rfl ?_
        refine X_iconst dX12_readEntry_27 (by decide) ?_
        refine X_invV (ci := 12) (as := [vi 5]) (st := []) okX12_fault dX12_readEntry_28 km_RX12_288 rfl rfl (Nat.le_of_ble_eq_true rfl) rfl rfl (hc11.2 c12).1 (CT.imp (hc11.2 c12).2 (fun z20 S20 V20 mc20 ms20 hc21 => ?_))
        refine X_istore_n dX12_readEntry_31 (by decide) rfl ?_
        exact X_ret (z := 0) dX12_readEntry_32 rfl (fun _ => trivial) hc21
  · exact X_ret (z := 0) dX12_readEntry_7 rfl (fun _ => trivial) (h.2.2 c1)
theorem qX12_readEntry {l : Launch} {G : GT} {Q : Int → Sh → Mem → Prop} {d : Nat} {S : Sh} {V : Mem} {mc ms : Nat} {x0 x1 : Int} (h : 0 ≤ x0 → inI x1 → XJ l G bX12_readEntry Q d 0 [vr x0, vi x1, vu] [] S V mc ms) : Ct l G bX12_readEntry Q d mc ms [vr x0, vi x1] S V := Ct.of okX12_readEntry.1 trivial (Nat.le_of_ble_eq_true rfl) (fun hv => h (hv _ (List.mem_of_getElem? (i := 0) rfl)) (hv _ (List.mem_of_getElem? (i := 1) rfl)))
set_option maxRecDepth 10000 in
theorem vX12_beginsExpr_0 {l : Launch} {G : GT} {Q : Int → Sh → Mem → Prop} {d : Nat} {S : Sh} {V : Mem} {mc ms : Nat} {x0 : Int} (h : S.1 x0 = 13 ∧ ((V x0 3) = 3 → Q 1 S V) ∧ (¬ ((V x0 3) = 3) → CT l G bX12_isSign d mc ms [vr x0, vi 45] S V (fun z2 S2 V2 mc2 ms2 => (z2 ≠ 0 → Q 1 S2 V2) ∧ (¬ (z2 ≠ 0) → S2.1 x0 = 13 ∧ CT l G bX12_isSign d mc2 ms2 [vr x0, vi 40] S2 V2 (fun z5 S5 V5 mc5 ms5 => (z5 ≠ 0 → Q 1 S5 V5) ∧ (¬ (z5 ≠ 0) → S5.1 x0 = 13 ∧ CT l G bX12_isWord d mc5 ms5 [vr x0, vr ((G.2.2.2.1 14 : Int) + 1)] S5 V5 (fun z8 S8 V8 mc8 ms8 => (z8 ≠ 0 → Q 1 S8 V8) ∧ (¬ (z8 ≠ 0) → S8.1 x0 = 13 ∧ CT l G bX12_isName d mc8 ms8 [vr x0] S8 V8 (fun z11 S11 V11 mc11 ms11 => (z11 = 0 → Q 0 S11 V11) ∧ (¬ (z11 = 0) → Q 1 S11 V11)))))))))) : XJ l G bX12_beginsExpr Q d 0 [vr x0] [] S V mc ms := by
  refine X_aload_n dX12_beginsExpr_0 rfl ?_
  refine X_getfield (ci := 12) (k := 3) (v := vi (V x0 3)) dX12_beginsExpr_1 rfl (by decide) kf_RX12_205 rfl h.1 ?_
  refine X_iconst dX12_beginsExpr_4 (by decide) ?_
  refine X_icmp_eq dX12_beginsExpr_5 (tgt := 42) rfl (fun c1 => ?_) (fun c1 => ?_)
  · refine X_iconst dX12_beginsExpr_42 (by decide) ?_
    refine X_goto dX12_beginsExpr_43 (tgt := 47) rfl ?_
    exact X_ret (z := 1) dX12_beginsExpr_47 rfl (fun _ => Or.inr rfl) (h.2.1 c1)
  · refine X_aload_n dX12_beginsExpr_8 rfl ?_
    refine X_bipush dX12_beginsExpr_9 (by decide) (by decide) ?_
    refine X_invV (ci := 12) (as := [vi 45]) (st := []) okX12_isSign dX12_beginsExpr_11 km_RX12_281 rfl rfl (Nat.le_of_ble_eq_true rfl) rfl rfl h.1 (CT.imp (h.2.2 c1) (fun z2 S2 V2 mc2 ms2 hc3 => ?_))
    refine X_if_ne dX12_beginsExpr_14 (tgt := 42) rfl (fun c4 => ?_) (fun c4 => ?_)
    · refine X_iconst dX12_beginsExpr_42 (by decide) ?_
      refine X_goto dX12_beginsExpr_43 (tgt := 47) rfl ?_
      exact X_ret (z := 1) dX12_beginsExpr_47 rfl (fun _ => Or.inr rfl) (hc3.1 c4)
    · refine X_aload_n dX12_beginsExpr_17 rfl ?_
      refine X_bipush dX12_beginsExpr_18 (by decide) (by decide) ?_
      refine X_invV (ci := 12) (as := [vi 40]) (st := []) okX12_isSign dX12_beginsExpr_20 km_RX12_281 rfl rfl (Nat.le_of_ble_eq_true rfl) rfl rfl (hc3.2 c4).1 (CT.imp (hc3.2 c4).2 (fun z5 S5 V5 mc5 ms5 hc6 => ?_))
      refine X_if_ne dX12_beginsExpr_23 (tgt := 42) rfl (fun c7 => ?_) (fun c7 => ?_)
      · refine X_iconst dX12_beginsExpr_42 (by decide) ?_
        refine X_goto dX12_beginsExpr_43 (tgt := 47) rfl ?_
        exact X_ret (z := 1) dX12_beginsExpr_47 rfl (fun _ => Or.inr rfl) (hc6.1 c7)
      · refine X_aload_n dX12_beginsExpr_26 rfl ?_
        refine X_ldcS (i := 14) dX12_beginsExpr_27 (by decide) ⟨rfl, rfl⟩ ?_
        refine X_invV (ci := 12) (as := [vr ((G.2.2.2.1 14 : Int) + 1)]) (st := []) okX12_isWord dX12_beginsExpr_29 km_RX12_235 rfl rfl (Nat.le_of_ble_eq_true rfl) rfl rfl (hc6.2 c7).1 (CT.imp (hc6.2 c7).2 (fun z8 S8 V8 mc8 ms8 hc9 => ?_))
        refine X_if_ne dX12_beginsExpr_32 (tgt := 42) rfl (fun c10 => ?_) (fun c10 => ?_)
        · refine X_iconst dX12_beginsExpr_42 (by decide) ?_
          refine X_goto dX12_beginsExpr_43 (tgt := 47) rfl ?_
          exact X_ret (z := 1) dX12_beginsExpr_47 rfl (fun _ => Or.inr rfl) (hc9.1 c10)
        · refine X_aload_n dX12_beginsExpr_35 rfl ?_
          refine X_invV (ci := 12) (as := []) (st := []) okX12_isName dX12_beginsExpr_36 km_RX12_291 rfl rfl (Nat.le_of_ble_eq_true rfl) rfl rfl (hc9.2 c10).1 (CT.imp (hc9.2 c10).2 (fun z11 S11 V11 mc11 ms11 hc12 => ?_))
          refine X_if_eq dX12_beginsExpr_39 (tgt := 46) rfl (fun c13 => ?_) (fun c13 => ?_)
          · refine X_iconst dX12_beginsExpr_46 (by decide) ?_
            exact X_ret (z := 0) dX12_beginsExpr_47 rfl (fun _ => Or.inl rfl) (hc12.1 c13)
          · refine X_iconst dX12_beginsExpr_42 (by decide) ?_
            refine X_goto dX12_beginsExpr_43 (tgt := 47) rfl ?_
            exact X_ret (z := 1) dX12_beginsExpr_47 rfl (fun _ => Or.inr rfl) (hc12.2 c13)
theorem qX12_beginsExpr {l : Launch} {G : GT} {Q : Int → Sh → Mem → Prop} {d : Nat} {S : Sh} {V : Mem} {mc ms : Nat} {x0 : Int} (h : 0 ≤ x0 → XJ l G bX12_beginsExpr Q d 0 [vr x0] [] S V mc ms) : Ct l G bX12_beginsExpr Q d mc ms [vr x0] S V := Ct.of okX12_beginsExpr.1 trivial (Nat.le_of_ble_eq_true rfl) (fun hv => h (hv _ (List.mem_of_getElem? (i := 0) rfl)))
set_option maxRecDepth 10000 in
theorem vX12_readSwitch_0 {l : Launch} {G : GT} {Q : Int → Sh → Mem → Prop} {d : Nat} {S : Sh} {V : Mem} {mc ms : Nat} {x0 : Int} (h : S.1 x0 = 13 ∧ S.1 (V x0 18) = 20 ∧ 0 ≤ (V x0 41) ∧ (V x0 41) < S.2.1 (V x0 18) ∧ ((V (V x0 18) (V x0 41)) ≠ 3 → CT l G bX12_next d mc ms [vr x0] S V (fun z2 S2 V2 mc2 ms2 => S2.1 x0 = 13 ∧ CT l G bX12_tells d mc2 ms2 [vr x0] S2 V2 (fun z4 S4 V4 mc4 ms4 => S4.1 x0 = 13 ∧ CT l G bX12_newName d mc4 ms4 [vr x0, vi z4] S4 V4 (fun z6 S6 V6 mc6 ms6 => S6.1 x0 = 13 ∧ ((V6 x0 46) ≤ 0 → -2147483648 ≤ 3 * (V6 x0 41) ∧ 3 * (V6 x0 41) ≤ 2147483647 ∧ S6.1 (V6 x0 18) = 20 ∧ 0 ≤ (V6 x0 41) ∧ (V6 x0 41) < S6.2.1 (V6 x0 18) ∧ -2147483648 ≤ (3 * (V6 x0 41)) + (V6 (V6 x0 18) (V6 x0 41)) ∧ (3 * (V6 x0 41)) + (V6 (V6 x0 18) (V6 x0 41)) ≤ 2147483647 ∧ S6.1 (V6 x0 29) = 20 ∧ 0 ≤ ((3 * (V6 x0 41)) + (V6 (V6 x0 18) (V6 x0 41))) ∧ ((3 * (V6 x0 41)) + (V6 (V6 x0 18) (V6 x0 41))) < S6.2.1 (V6 x0 29) ∧ S6.1 (V6 x0 30) = 20 ∧ ((3 * (V6 x0 41)) + (V6 (V6 x0 18) (V6 x0 41))) < S6.2.1 (V6 x0 30) ∧ -2147483648 ≤ ((up (up V6 (V6 x0 29) ((3 * (V6 x0 41)) + (V6 (V6 x0 18) (V6 x0 41))) z6) (V6 x0 30) ((3 * (V6 x0 41)) + (V6 (V6 x0 18) (V6 x0 41))) 0) (V6 x0 18) (V6 x0 41)) + 1 ∧ ((up (up V6 (V6 x0 29) ((3 * (V6 x0 41)) + (V6 (V6 x0 18) (V6 x0 41))) z6) (V6 x0 30) ((3 * (V6 x0 41)) + (V6 (V6 x0 18) (V6 x0 41))) 0) (V6 x0 18) (V6 x0 41)) + 1 ≤ 2147483647 ∧ CT l G bX12_next d mc6 ms6 [vr x0] S6 (up (up (up V6 (V6 x0 29) ((3 * (V6 x0 41)) + (V6 (V6 x0 18) (V6 x0 41))) z6) (V6 x0 30) ((3 * (V6 x0 41)) + (V6 (V6 x0 18) (V6 x0 41))) 0) (V6 x0 18) (V6 x0 41) (((up (up V6 (V6 x0 29) ((3 * (V6 x0 41)) + (V6 (V6 x0 18) (V6 x0 41))) z6) (V6 x0 30) ((3 * (V6 x0 41)) + (V6 (V6 x0 18) (V6 x0 41))) 0) (V6 x0 18) (V6 x0 41)) + 1)) (fun z9 S9 V9 mc9 ms9 => S9.1 x0 = 13 ∧ CT l G bX12_sign d mc9 ms9 [vr x0, vi 123] S9 V9 (fun z11 S11 V11 mc11 ms11 => XJ l G bX12_readSwitch Q d 95 [vr x0, vi z6, vi ((3 * (V6 x0 41)) + (V6 (V6 x0 18) (V6 x0 41))), vu] [] S11 V11 mc11 ms11))) ∧ (¬ ((V6 x0 46) ≤ 0) → Q 0 S6 V6))))) ∧ (¬ ((V (V x0 18) (V x0 41)) ≠ 3) → CT l G bX12_fault d mc ms [vr x0, vi 5] S V (fun z13 S13 V13 mc13 ms13 => Q 0 S13 V13))) : XJ l G bX12_readSwitch Q d 0 [vr x0, vu, vu, vu] [] S V mc ms := by
  refine X_aload_n dX12_readSwitch_0 rfl ?_
  refine X_getfield (ci := 12) (k := 18) (v := vr (V x0 18)) dX12_readSwitch_1 rfl (by decide) kf_RX12_41 rfl h.1 ?_
  refine X_aload_n dX12_readSwitch_4 rfl ?_
  refine X_getfield (ci := 12) (k := 41) (v := vi (V x0 41)) dX12_readSwitch_5 rfl (by decide) kf_RX12_269 rfl h.1 ?_
  refine X_iaload dX12_readSwitch_8 h.2.1 h.2.2.1 h.2.2.2.1 ?_
  refine X_iconst dX12_readSwitch_9 (by decide) ?_
  refine X_icmp_ne dX12_readSwitch_10 (tgt := 20) rfl (fun c1 => ?_) (fun c1 => ?_)
  · refine X_aload_n dX12_readSwitch_20 rfl ?_
    refine X_invV (ci := 12) (as := []) (st := []) okX12_next dX12_readSwitch_21 km_RX12_285 rfl rfl (Nat.le_of_ble_eq_true rfl) rfl rfl h.1 (CT.imp (h.2.2.2.2.1 c1) (fun z2 S2 V2 mc2 ms2 hc3 => ?_))
    refine X_aload_n dX12_readSwitch_24 rfl ?_
    refine X_aload_n dX12_readSwitch_25 rfl ?_
    refine X_invV (ci := 12) (as := []) (st := [vr x0]) okX12_tells dX12_readSwitch_26 km_RX12_328 rfl rfl (Nat.le_of_ble_eq_true rfl) rfl rfl hc3.1 (CT.imp hc3.2 (fun z4 S4 V4 mc4 ms4 hc5 => ?_))
    refine X_invV (ci := 12) (as := [vi z4]) (st := []) okX12_newName dX12_readSwitch_29 km_RX12_314 rfl rfl (Nat.le_of_ble_eq_true rfl) rfl rfl hc5.1 (CT.imp hc5.2 (fun z6 S6 V6 mc6 ms6 hc7 => ?_))
    refine X_istore_n dX12_readSwitch_32 (by decide) rfl ?_
    refine X_aload_n dX12_readSwitch_33 rfl ?_
    refine X_getfield (ci := 12) (k := 46) (v := vi (V6 x0 46)) dX12_readSwitch_34 rfl (by decide) kf_RX12_275 rfl hc7.1 ?_
    refine X_if_le dX12_readSwitch_37 (tgt := 41) rfl (fun c8 => ?_) (fun c8 => ?_)
    · refine X_iconst dX12_readSwitch_41 (by decide) ?_
      refine X_aload_n dX12_readSwitch_42 rfl ?_
      refine X_getfield (ci := 12) (k := 41) (v := vi (V6 x0 41)) dX12_readSwitch_43 rfl (by decide) kf_RX12_269 rfl hc7.1 ?_
      refine X_imulN dX12_readSwitch_46 (hc7.2.1 c8).1 (hc7.2.1 c8).2.1 ?_
      refine X_aload_n dX12_readSwitch_47 rfl ?_
      refine X_getfield (ci := 12) (k := 18) (v := vr (V6 x0 18)) dX12_readSwitch_48 rfl (by decide) kf_RX12_41 rfl hc7.1 ?_
      refine X_aload_n dX12_readSwitch_51 rfl ?_
      refine X_getfield (ci := 12) (k := 41) (v := vi (V6 x0 41)) dX12_readSwitch_52 rfl (by decide) kf_RX12_269 rfl hc7.1 ?_
      refine X_iaload dX12_readSwitch_55 (hc7.2.1 c8).2.2.1 (hc7.2.1 c8).2.2.2.1 (hc7.2.1 c8).2.2.2.2.1 ?_
      refine X_iaddN dX12_readSwitch_56 (hc7.2.1 c8).2.2.2.2.2.1 (hc7.2.1 c8).2.2.2.2.2.2.1 ?_
      refine X_istore_n dX12_readSwitch_57 (by decide) rfl ?_
      refine X_aload_n dX12_readSwitch_58 rfl ?_
      refine X_getfield (ci := 12) (k := 29) (v := vr (V6 x0 29)) dX12_readSwitch_59 rfl (by decide) kf_RX12_74 rfl hc7.1 ?_
      refine X_iload_n dX12_readSwitch_62 rfl ?_
      refine X_iload_n dX12_readSwitch_63 rfl ?_
      refine X_iastore dX12_readSwitch_64 (hc7.2.1 c8).2.2.2.2.2.2.2.1 (hc7.2.1 c8).2.2.2.2.2.2.2.2.1 (hc7.2.1 c8).2.2.2.2.2.2.2.2.2.1 ?_
      refine X_aload_n dX12_readSwitch_65 rfl ?_
      refine X_getfield (ci := 12) (k := 30) (v := vr (V6 x0 30)) dX12_readSwitch_66 rfl (by decide) kf_RX12_77 (congrArg vr (up_ne (Or.inl (tag_ne hc7.1 (hc7.2.1 c8).2.2.2.2.2.2.2.1 (by decide))))) hc7.1 ?_
      refine X_iload_n dX12_readSwitch_69 rfl ?_
      refine X_iconst dX12_readSwitch_70 (by decide) ?_
      refine X_iastore dX12_readSwitch_71 (hc7.2.1 c8).2.2.2.2.2.2.2.2.2.2.1 (hc7.2.1 c8).2.2.2.2.2.2.2.2.1 (hc7.2.1 c8).2.2.2.2.2.2.2.2.2.2.2.1 ?_
      refine X_aload_n dX12_readSwitch_72 rfl ?_
      refine X_getfield (ci := 12) (k := 18) (v := vr (V6 x0 18)) dX12_readSwitch_73 rfl (by decide) kf_RX12_41 (congrArg vr ((up_ne (Or.inl (tag_ne hc7.1 (hc7.2.1 c8).2.2.2.2.2.2.2.2.2.2.1 (by decide)))).trans (up_ne (Or.inl (tag_ne hc7.1 (hc7.2.1 c8).2.2.2.2.2.2.2.1 (by decide)))))) hc7.1 ?_
      refine X_aload_n dX12_readSwitch_76 rfl ?_
      refine X_getfield (ci := 12) (k := 41) (v := vi (V6 x0 41)) dX12_readSwitch_77 rfl (by decide) kf_RX12_269 (congrArg vi ((up_ne (Or.inl (tag_ne hc7.1 (hc7.2.1 c8).2.2.2.2.2.2.2.2.2.2.1 (by decide)))).trans (up_ne (Or.inl (tag_ne hc7.1 (hc7.2.1 c8).2.2.2.2.2.2.2.1 (by decide)))))) hc7.1 ?_
      refine X_dup2 dX12_readSwitch_80 rfl (rv_cat _) ?_
      refine X_iaload dX12_readSwitch_81 (hc7.2.1 c8).2.2.1 (hc7.2.1 c8).2.2.2.1 (hc7.2.1 c8).2.2.2.2.1 ?_
      refine X_iconst dX12_readSwitch_82 (by decide) ?_
      refine X_iaddN dX12_readSwitch_83 (hc7.2.1 c8).2.2.2.2.2.2.2.2.2.2.2.2.1 (hc7.2.1 c8).2.2.2.2.2.2.2.2.2.2.2.2.2.1 ?_
      refine X_iastore dX12_readSwitch_84 (hc7.2.1 c8).2.2.1 (hc7.2.1 c8).2.2.2.1 (hc7.2.1 c8).2.2.2.2.1 ?_
      refine X_aload_n dX12_readSwitch_85 rfl ?_
      refine X_invV (ci := 12) (as := []) (st := []) okX12_next dX12_readSwitch_86 km_RX12_285 rfl rfl (Nat.le_of_ble_eq_true rfl) rfl rfl hc7.1 (CT.imp (hc7.2.1 c8).2.2.2.2.2.2.2.2.2.2.2.2.2.2 (fun z9 S9 V9 mc9 ms9 hc10 => ?_))
      refine X_aload_n dX12_readSwitch_89 rfl ?_
      refine X_bipush dX12_readSwitch_90 (by decide) (by decide) ?_
      refine X_invV (ci := 12) (as := [vi 123]) (st := []) okX12_sign dX12_readSwitch_92 km_RX12_318 rfl rfl (Nat.le_of_ble_eq_true rfl) rfl rfl hc10.1 (CT.imp hc10.2 (fun z11 S11 V11 mc11 ms11 hc12 => ?_))
      exact hc12
    · exact X_ret (z := 0) dX12_readSwitch_40 rfl (fun _ => trivial) (hc7.2.2 c8)
  · refine X_aload_n dX12_readSwitch_13 rfl ?_
    refine X_iconst dX12_readSwitch_14 (by decide) ?_
    refine X_invV (ci := 12) (as := [vi 5]) (st := []) okX12_fault dX12_readSwitch_15 km_RX12_288 rfl rfl (Nat.le_of_ble_eq_true rfl) rfl rfl h.1 (CT.imp (h.2.2.2.2.2 c1) (fun z13 S13 V13 mc13 ms13 hc14 => ?_))
    refine X_istore_n dX12_readSwitch_18 (by decide) rfl ?_
    exact X_ret (z := 0) dX12_readSwitch_19 rfl (fun _ => trivial) hc14
set_option maxRecDepth 10000 in
theorem vX12_readSwitch_95 {l : Launch} {G : GT} {Q : Int → Sh → Mem → Prop} {d : Nat} {S : Sh} {V : Mem} {mc ms : Nat} {x0 x1 x2 : Int} (h : S.1 x0 = 13 ∧ ((V x0 46) ≠ 0 → ((V x0 46) ≤ 0 → CT l G bX12_isWord d mc ms [vr x0, vr ((G.2.2.2.1 11 : Int) + 1)] S V (fun z3 S3 V3 mc3 ms3 => (z3 ≠ 0 → S3.1 x0 = 13 ∧ CT l G bX12_next d mc3 ms3 [vr x0] S3 V3 (fun z6 S6 V6 mc6 ms6 => S6.1 x0 = 13 ∧ CT l G bX12_sign d mc6 ms6 [vr x0, vi 58] S6 V6 (fun z8 S8 V8 mc8 ms8 => S8.1 x0 = 13 ∧ CT l G bX12_readExpr d mc8 ms8 [vr x0, vi 0, vi 0, vi 0] S8 V8 (fun z10 S10 V10 mc10 ms10 => S10.1 (V8 x0 34) = 20 ∧ 0 ≤ x2 ∧ x2 < S10.2.1 (V8 x0 34) ∧ S10.1 x0 = 13 ∧ CT l G bX12_sign d mc10 ms10 [vr x0, vi 59] S10 (up V10 (V8 x0 34) x2 z10) (fun z12 S12 V12 mc12 ms12 => S12.1 x0 = 13 ∧ CT l G bX12_sign d mc12 ms12 [vr x0, vi 125] S12 V12 (fun z14 S14 V14 mc14 ms14 => Q 0 S14 V14)))))) ∧ (¬ (z3 ≠ 0) → S3.1 x0 = 13 ∧ CT l G bX12_fault d mc3 ms3 [vr x0, vi 2] S3 V3 (fun z16 S16 V16 mc16 ms16 => Q 0 S16 V16)))) ∧ (¬ ((V x0 46) ≤ 0) → Q 0 S V)) ∧ (¬ ((V x0 46) ≠ 0) → CT l G bX12_isWord d mc ms [vr x0, vr ((G.2.2.2.1 10 : Int) + 1)] S V (fun z18 S18 V18 mc18 ms18 => (z18 = 0 → S18.1 x0 = 13 ∧ ((V18 x0 46) ≤ 0 → CT l G bX12_isWord d mc18 ms18 [vr x0, vr ((G.2.2.2.1 11 : Int) + 1)] S18 V18 (fun z22 S22 V22 mc22 ms22 => (z22 ≠ 0 → S22.1 x0 = 13 ∧ CT l G bX12_next d mc22 ms22 [vr x0] S22 V22 (fun z25 S25 V25 mc25 ms25 => S25.1 x0 = 13 ∧ CT l G bX12_sign d mc25 ms25 [vr x0, vi 58] S25 V25 (fun z27 S27 V27 mc27 ms27 => S27.1 x0 = 13 ∧ CT l G bX12_readExpr d mc27 ms27 [vr x0, vi 0, vi 0, vi 0] S27 V27 (fun z29 S29 V29 mc29 ms29 => S29.1 (V27 x0 34) = 20 ∧ 0 ≤ x2 ∧ x2 < S29.2.1 (V27 x0 34) ∧ S29.1 x0 = 13 ∧ CT l G bX12_sign d mc29 ms29 [vr x0, vi 59] S29 (up V29 (V27 x0 34) x2 z29) (fun z31 S31 V31 mc31 ms31 => S31.1 x0 = 13 ∧ CT l G bX12_sign d mc31 ms31 [vr x0, vi 125] S31 V31 (fun z33 S33 V33 mc33 ms33 => Q 0 S33 V33)))))) ∧ (¬ (z22 ≠ 0) → S22.1 x0 = 13 ∧ CT l G bX12_fault d mc22 ms22 [vr x0, vi 2] S22 V22 (fun z35 S35 V35 mc35 ms35 => Q 0 S35 V35)))) ∧ (¬ ((V18 x0 46) ≤ 0) → Q 0 S18 V18)) ∧ (¬ (z18 = 0) → S18.1 x0 = 13 ∧ CT l G bX12_readCase d mc18 ms18 [vr x0, vi x2] S18 V18 (fun z37 S37 V37 mc37 ms37 => XJ l G bX12_readSwitch Q d 95 [vr x0, vi x1, vi x2, vu] [] S37 V37 mc37 ms37))))) : XJ l G bX12_readSwitch Q d 95 [vr x0, vi x1, vi x2, vu] [] S V mc ms := by
  refine X_aload_n dX12_readSwitch_95 rfl ?_
  refine X_getfield (ci := 12) (k := 46) (v := vi (V x0 46)) dX12_readSwitch_96 rfl (by decide) kf_RX12_275 rfl h.1 ?_
  refine X_if_ne dX12_readSwitch_99 (tgt := 119) rfl (fun c1 => ?_) (fun c1 => ?_)
  · refine X_aload_n dX12_readSwitch_119 rfl ?_
    refine X_getfield (ci := 12) (k := 46) (v := vi (V x0 46)) dX12_readSwitch_120 rfl (by decide) kf_RX12_275 rfl h.1 ?_
    refine X_if_le dX12_readSwitch_123 (tgt := 127) rfl (fun c2 => ?_) (fun c2 => ?_)
    · refine X_aload_n dX12_readSwitch_127 rfl ?_
      refine X_ldcS (i := 11) dX12_readSwitch_128 (by decide) ⟨rfl, rfl⟩ ?_
      refine X_invV (ci := 12) (as := [vr ((G.2.2.2.1 11 : Int) + 1)]) (st := []) okX12_isWord dX12_readSwitch_130 km_RX12_235 rfl rfl (Nat.le_of_ble_eq_true rfl) rfl rfl h.1 (CT.imp ((h.2.1 c1).1 c2) (fun z3 S3 V3 mc3 ms3 hc4 => ?_))
      refine X_if_ne dX12_readSwitch_133 (tgt := 143) rfl (fun c5 => ?_) (fun c5 => ?_)
      · refine X_aload_n dX12_readSwitch_143 rfl ?_
        refine X_invV (ci := 12) (as := []) (st := []) okX12_next dX12_readSwitch_144 km_RX12_285 rfl rfl (Nat.le_of_ble_eq_true rfl) rfl rfl (hc4.1 c5).1 (CT.imp (hc4.1 c5).2 (fun z6 S6 V6 mc6 ms6 hc7 => ?_))
        refine X_aload_n dX12_readSwitch_147 rfl ?_
        refine X_bipush dX12_readSwitch_148 (by decide) (by decide) ?_
        refine X_invV (ci := 12) (as := [vi 58]) (st := []) okX12_sign dX12_readSwitch_150 km_RX12_318 rfl rfl (Nat.le_of_ble_eq_true rfl) rfl rfl hc7.1 (CT.imp hc7.2 (fun z8 S8 V8 mc8 ms8 hc9 => ?_))
        refine X_aload_n dX12_readSwitch_153 rfl ?_
        refine X_getfield (ci := 12) (k := 34) (v := vr (V8 x0 34)) dX12_readSwitch_154 rfl (by decide) kf_RX12_89 rfl hc9.1 ?_
        refine X_iload_n dX12_readSwitch_157 rfl ?_
        refine X_aload_n dX12_readSwitch_158 rfl ?_
        refine X_iconst dX12_readSwitch_159 (by decide) ?_
        refine X_iconst dX12_readSwitch_160 (by decide) ?_
        refine X_iconst dX12_readSwitch_161 (by decide) ?_
        refine X_invV (ci := 12) (as := [vi 0, vi 0, vi 0]) (st := [vi x2, vr (V8 x0 34)]) okX12_readExpr dX12_readSwitch_162 km_RX12_331 rfl rfl (Nat.le_of_ble_eq_true rfl) rfl rfl hc9.1 (CT.imp hc9.2 (fun z10 S10 V10 mc10 ms10 hc11 => ?_))
        refine X_iastore dX12_readSwitch_165 hc11.1 hc11.2.1 hc11.2.2.1 ?_
        refine X_aload_n dX12_readSwitch_166 rfl ?_
        refine X_bipush dX12_readSwitch_167 (by decide) (by decide) ?_
        refine X_invV (ci := 12) (as := [vi 59]) (st := []) okX12_sign dX12_readSwitch_169 km_RX12_318 rfl rfl (Nat.le_of_ble_eq_true rfl) rfl rfl hc11.2.2.2.1 (CT.imp hc11.2.2.2.2 (fun z12 S12 V12 mc12 ms12 hc13 => ?_))
        refine X_aload_n dX12_readSwitch_172 rfl ?_
        refine X_bipush dX12_readSwitch_173 (by decide) (by decide) ?_
        refine X_invV (ci := 12) (as := [vi 125]) (st := []) okX12_sign dX12_readSwitch_175 km_RX12_318 rfl rfl (Nat.le_of_ble_eq_true rfl) rfl rfl hc13.1 (CT.imp hc13.2 (fun z14 S14 V14 mc14 ms14 hc15 => ?_))
        exact X_ret (z := 0) dX12_readSwitch_178 rfl (fun _ => trivial) hc15
      · refine X_aload_n dX12_readSwitch_136 rfl ?_
        refine X_iconst dX12_readSwitch_137 (by decide) ?_
        refine X_invV (ci := 12) (as := [vi 2]) (st := []) okX12_fault dX12_readSwitch_138 km_RX12_288 rfl rfl (Nat.le_of_ble_eq_true rfl) rfl rfl (hc4.2 c5).1 (CT.imp (hc4.2 c5).2 (fun z16 S16 V16 mc16 ms16 hc17 => ?_))
        refine X_istore_n dX12_readSwitch_141 (by decide) rfl ?_
        exact X_ret (z := 0) dX12_readSwitch_142 rfl (fun _ => trivial) hc17
    · exact X_ret (z := 0) dX12_readSwitch_126 rfl (fun _ => trivial) ((h.2.1 c1).2 c2)
  · refine X_aload_n dX12_readSwitch_102 rfl ?_
    refine X_ldcS (i := 10) dX12_readSwitch_103 (by decide) ⟨rfl, rfl⟩ ?_
    refine X_invV (ci := 12) (as := [vr ((G.2.2.2.1 10 : Int) + 1)]) (st := []) okX12_isWord dX12_readSwitch_105 km_RX12_235 rfl rfl (Nat.le_of_ble_eq_true rfl) rfl rfl h.1 (CT.imp (h.2.2 c1) (fun z18 S18 V18 mc18 ms18 hc19 => ?_))
    refine X_if_eq dX12_readSwitch_108 (tgt := 119) rfl (fun c20 => ?_) (fun c20 => ?_)
    · refine X_aload_n dX12_readSwitch_119 rfl ?_
      refine X_getfield (ci := 12) (k := 46) (v := vi (V18 x0 46)) dX12_readSwitch_120 rfl (by decide) kf_RX12_275 rfl (hc19.1 c20).1 ?_
      refine X_if_le dX12_readSwitch_123 (tgt := 127) rfl (fun c21 => ?_) (fun c21 => ?_)
      · refine X_aload_n dX12_readSwitch_127 rfl ?_
        refine X_ldcS (i := 11) dX12_readSwitch_128 (by decide) ⟨rfl, rfl⟩ ?_
        refine X_invV (ci := 12) (as := [vr ((G.2.2.2.1 11 : Int) + 1)]) (st := []) okX12_isWord dX12_readSwitch_130 km_RX12_235 rfl rfl (Nat.le_of_ble_eq_true rfl) rfl rfl (hc19.1 c20).1 (CT.imp ((hc19.1 c20).2.1 c21) (fun z22 S22 V22 mc22 ms22 hc23 => ?_))
        refine X_if_ne dX12_readSwitch_133 (tgt := 143) rfl (fun c24 => ?_) (fun c24 => ?_)
        · refine X_aload_n dX12_readSwitch_143 rfl ?_
          refine X_invV (ci := 12) (as := []) (st := []) okX12_next dX12_readSwitch_144 km_RX12_285 rfl rfl (Nat.le_of_ble_eq_true rfl) rfl rfl (hc23.1 c24).1 (CT.imp (hc23.1 c24).2 (fun z25 S25 V25 mc25 ms25 hc26 => ?_))
          refine X_aload_n dX12_readSwitch_147 rfl ?_
          refine X_bipush dX12_readSwitch_148 (by decide) (by decide) ?_
          refine X_invV (ci := 12) (as := [vi 58]) (st := []) okX12_sign dX12_readSwitch_150 km_RX12_318 rfl rfl (Nat.le_of_ble_eq_true rfl) rfl rfl hc26.1 (CT.imp hc26.2 (fun z27 S27 V27 mc27 ms27 hc28 => ?_))
          refine X_aload_n dX12_readSwitch_153 rfl ?_
          refine X_getfield (ci := 12) (k := 34) (v := vr (V27 x0 34)) dX12_readSwitch_154 rfl (by decide) kf_RX12_89 rfl hc28.1 ?_
          refine X_iload_n dX12_readSwitch_157 rfl ?_
          refine X_aload_n dX12_readSwitch_158 rfl ?_
          refine X_iconst dX12_readSwitch_159 (by decide) ?_
          refine X_iconst dX12_readSwitch_160 (by decide) ?_
          refine X_iconst dX12_readSwitch_161 (by decide) ?_
          refine X_invV (ci := 12) (as := [vi 0, vi 0, vi 0]) (st := [vi x2, vr (V27 x0 34)]) okX12_readExpr dX12_readSwitch_162 km_RX12_331 rfl rfl (Nat.le_of_ble_eq_true rfl) rfl rfl hc28.1 (CT.imp hc28.2 (fun z29 S29 V29 mc29 ms29 hc30 => ?_))
          refine X_iastore dX12_readSwitch_165 hc30.1 hc30.2.1 hc30.2.2.1 ?_
          refine X_aload_n dX12_readSwitch_166 rfl ?_
          refine X_bipush dX12_readSwitch_167 (by decide) (by decide) ?_
          refine X_invV (ci := 12) (as := [vi 59]) (st := []) okX12_sign dX12_readSwitch_169 km_RX12_318 rfl rfl (Nat.le_of_ble_eq_true rfl) rfl rfl hc30.2.2.2.1 (CT.imp hc30.2.2.2.2 (fun z31 S31 V31 mc31 ms31 hc32 => ?_))
          refine X_aload_n dX12_readSwitch_172 rfl ?_
          refine X_bipush dX12_readSwitch_173 (by decide) (by decide) ?_
          refine X_invV (ci := 12) (as := [vi 125]) (st := []) okX12_sign dX12_readSwitch_175 km_RX12_318 rfl rfl (Nat.le_of_ble_eq_true rfl) rfl rfl hc32.1 (CT.imp hc32.2 (fun z33 S33 V33 mc33 ms33 hc34 => ?_))
          exact X_ret (z := 0) dX12_readSwitch_178 rfl (fun _ => trivial) hc34
        · refine X_aload_n dX12_readSwitch_136 rfl ?_
          refine X_iconst dX12_readSwitch_137 (by decide) ?_
          refine X_invV (ci := 12) (as := [vi 2]) (st := []) okX12_fault dX12_readSwitch_138 km_RX12_288 rfl rfl (Nat.le_of_ble_eq_true rfl) rfl rfl (hc23.2 c24).1 (CT.imp (hc23.2 c24).2 (fun z35 S35 V35 mc35 ms35 hc36 => ?_))
          refine X_istore_n dX12_readSwitch_141 (by decide) rfl ?_
          exact X_ret (z := 0) dX12_readSwitch_142 rfl (fun _ => trivial) hc36
      · exact X_ret (z := 0) dX12_readSwitch_126 rfl (fun _ => trivial) ((hc19.1 c20).2.2 c21)
    · refine X_aload_n dX12_readSwitch_111 rfl ?_
      refine X_iload_n dX12_readSwitch_112 rfl ?_
      refine X_invV (ci := 12) (as := [vi x2]) (st := []) okX12_readCase dX12_readSwitch_113 km_RX12_350 rfl rfl (Nat.le_of_ble_eq_true rfl) rfl rfl (hc19.2 c20).1 (CT.imp (hc19.2 c20).2 (fun z37 S37 V37 mc37 ms37 hc38 => ?_))
      refine X_goto dX12_readSwitch_116 (tgt := 95) rfl ?_
      exact hc38
theorem qX12_readSwitch {l : Launch} {G : GT} {Q : Int → Sh → Mem → Prop} {d : Nat} {S : Sh} {V : Mem} {mc ms : Nat} {x0 : Int} (h : 0 ≤ x0 → XJ l G bX12_readSwitch Q d 0 [vr x0, vu, vu, vu] [] S V mc ms) : Ct l G bX12_readSwitch Q d mc ms [vr x0] S V := Ct.of okX12_readSwitch.1 trivial (Nat.le_of_ble_eq_true rfl) (fun hv => h (hv _ (List.mem_of_getElem? (i := 0) rfl)))
set_option maxRecDepth 10000 in
theorem vX12_readCase_0 {l : Launch} {G : GT} {Q : Int → Sh → Mem → Prop} {d : Nat} {S : Sh} {V : Mem} {mc ms : Nat} {x0 x1 : Int} (h : S.1 x0 = 13 ∧ S.1 (V x0 30) = 20 ∧ 0 ≤ x1 ∧ x1 < S.2.1 (V x0 30) ∧ ((V (V x0 30) x1) ≠ 12 → CT l G bX12_next d mc ms [vr x0] S V (fun z2 S2 V2 mc2 ms2 => XJ l G bX12_readCase Q d 26 [vr x0, vi x1, vi 0, vi 0, vu] [] S2 V2 mc2 ms2)) ∧ (¬ ((V (V x0 30) x1) ≠ 12) → CT l G bX12_fault d mc ms [vr x0, vi 5] S V (fun z4 S4 V4 mc4 ms4 => Q 0 S4 V4))) : XJ l G bX12_readCase Q d 0 [vr x0, vi x1, vu, vu, vu] [] S V mc ms := by
  refine X_aload_n dX12_readCase_0 rfl ?_
  refine X_getfield (ci := 12) (k := 30) (v := vr (V x0 30)) dX12_readCase_1 rfl (by decide) kf_RX12_77 rfl h.1 ?_
  refine X_iload_n dX12_readCase_4 rfl ?_
  refine X_iaload dX12_readCase_5 h.2.1 h.2.2.1 h.2.2.2.1 ?_
  refine X_bipush dX12_readCase_6 (by decide) (by decide) ?_
  refine X_icmp_ne dX12_readCase_8 (tgt := 18) rfl (fun c1 => ?_) (fun c1 => ?_)
  · refine X_aload_n dX12_readCase_18 rfl ?_
    refine X_invV (ci := 12) (as := []) (st := []) okX12_next dX12_readCase_19 km_RX12_285 rfl rfl (Nat.le_of_ble_eq_true rfl) rfl rfl h.1 (CT.imp (h.2.2.2.2.1 c1) (fun z2 S2 V2 mc2 ms2 hc3 => ?_))
    refine X_iconst dX12_readCase_22 (by decide) ?_
    refine X_istore_n dX12_readCase_23 (by decide) rfl ?_
    refine X_iconst dX12_readCase_24 (by decide) ?_
    refine X_istore_n dX12_readCase_25 (by decide) rfl ?_
    exact hc3
  · refine X_aload_n dX12_readCase_11 rfl ?_
    refine X_iconst dX12_readCase_12 (by decide) ?_
    refine X_invV (ci := 12) (as := [vi 5]) (st := []) okX12_fault dX12_readCase_13 km_RX12_288 rfl rfl (Nat.le_of_ble_eq_true rfl) rfl rfl h.1 (CT.imp (h.2.2.2.2.2 c1) (fun z4 S4 V4 mc4 ms4 hc5 => ?_))
    refine X_istore_n dX12_readCase_16 (by decide) rfl ?_
    exact X_ret (z := 0) dX12_readCase_17 rfl (fun _ => trivial) hc5
set_option maxRecDepth 10000 in
theorem vX12_readCase_26 {l : Launch} {G : GT} {Q : Int → Sh → Mem → Prop} {d : Nat} {S : Sh} {V : Mem} {mc ms : Nat} {x0 x1 x2 x3 : Int} (h : S.1 x0 = 13 ∧ S.1 (V x0 30) = 20 ∧ 0 ≤ x1 ∧ x1 < S.2.1 (V x0 30) ∧ ((V (V x0 30) x1) ≤ x3 → CT l G bX12_newName d mc ms [vr x0, vi x2] S V (fun z2 S2 V2 mc2 ms2 => S2.1 x0 = 13 ∧ ((V2 x0 46) ≤ 0 → -2147483648 ≤ 12 * x1 ∧ 12 * x1 ≤ 2147483647 ∧ S2.1 (V2 x0 30) = 20 ∧ 0 ≤ x1 ∧ x1 < S2.2.1 (V2 x0 30) ∧ -2147483648 ≤ (12 * x1) + (V2 (V2 x0 30) x1) ∧ (12 * x1) + (V2 (V2 x0 30) x1) ≤ 2147483647 ∧ S2.1 (V2 x0 31) = 20 ∧ 0 ≤ ((12 * x1) + (V2 (V2 x0 30) x1)) ∧ ((12 * x1) + (V2 (V2 x0 30) x1)) < S2.2.1 (V2 x0 31) ∧ -2147483648 ≤ ((up V2 (V2 x0 31) ((12 * x1) + (V2 (V2 x0 30) x1)) z2) (V2 x0 30) x1) + 1 ∧ ((up V2 (V2 x0 31) ((12 * x1) + (V2 (V2 x0 30) x1)) z2) (V2 x0 30) x1) + 1 ≤ 2147483647 ∧ -2147483648 ≤ (-1) - ((12 * x1) + (V2 (V2 x0 30) x1)) ∧ (-1) - ((12 * x1) + (V2 (V2 x0 30) x1)) ≤ 2147483647 ∧ S2.1 (V2 x0 48) = 20 ∧ 0 ≤ (V2 x0 51) ∧ (V2 x0 51) < S2.2.1 (V2 x0 48) ∧ S2.1 (V2 x0 49) = 20 ∧ (V2 x0 51) < S2.2.1 (V2 x0 49) ∧ S2.1 (V2 x0 50) = 20 ∧ (V2 x0 51) < S2.2.1 (V2 x0 50) ∧ -2147483648 ≤ (V2 x0 51) + 1 ∧ (V2 x0 51) + 1 ≤ 2147483647 ∧ CT l G bX12_next d mc2 ms2 [vr x0] S2 (up (up (up (up (up (up V2 (V2 x0 31) ((12 * x1) + (V2 (V2 x0 30) x1)) z2) (V2 x0 30) x1 (((up V2 (V2 x0 31) ((12 * x1) + (V2 (V2 x0 30) x1)) z2) (V2 x0 30) x1) + 1)) (V2 x0 48) (V2 x0 51) ((-1) - ((12 * x1) + (V2 (V2 x0 30) x1)))) (V2 x0 49) (V2 x0 51) (-1)) (V2 x0 50) (V2 x0 51) z2) x0 51 ((V2 x0 51) + 1)) (fun z5 S5 V5 mc5 ms5 => S5.1 x0 = 13 ∧ CT l G bX12_sign d mc5 ms5 [vr x0, vi 58] S5 V5 (fun z7 S7 V7 mc7 ms7 => S7.1 x0 = 13 ∧ CT l G bX12_readExpr d mc7 ms7 [vr x0, vi 0, vi 0, vi 0] S7 V7 (fun z9 S9 V9 mc9 ms9 => S9.1 (V7 x0 33) = 20 ∧ 0 ≤ ((12 * x1) + (V2 (V2 x0 30) x1)) ∧ ((12 * x1) + (V2 (V2 x0 30) x1)) < S9.2.1 (V7 x0 33) ∧ S9.1 x0 = 13 ∧ CT l G bX12_sign d mc9 ms9 [vr x0, vi 59] S9 (up V9 (V7 x0 33) ((12 * x1) + (V2 (V2 x0 30) x1)) z9) (fun z11 S11 V11 mc11 ms11 => Q 0 S11 V11))))) ∧ (¬ ((V2 x0 46) ≤ 0) → Q 0 S2 V2))) ∧ (¬ ((V (V x0 30) x1) ≤ x3) → CT l G bX12_isName d mc ms [vr x0] S V (fun z13 S13 V13 mc13 ms13 => (z13 = 0 → S13.1 x0 = 13 ∧ CT l G bX12_newName d mc13 ms13 [vr x0, vi x2] S13 V13 (fun z16 S16 V16 mc16 ms16 => S16.1 x0 = 13 ∧ ((V16 x0 46) ≤ 0 → -2147483648 ≤ 12 * x1 ∧ 12 * x1 ≤ 2147483647 ∧ S16.1 (V16 x0 30) = 20 ∧ 0 ≤ x1 ∧ x1 < S16.2.1 (V16 x0 30) ∧ -2147483648 ≤ (12 * x1) + (V16 (V16 x0 30) x1) ∧ (12 * x1) + (V16 (V16 x0 30) x1) ≤ 2147483647 ∧ S16.1 (V16 x0 31) = 20 ∧ 0 ≤ ((12 * x1) + (V16 (V16 x0 30) x1)) ∧ ((12 * x1) + (V16 (V16 x0 30) x1)) < S16.2.1 (V16 x0 31) ∧ -2147483648 ≤ ((up V16 (V16 x0 31) ((12 * x1) + (V16 (V16 x0 30) x1)) z16) (V16 x0 30) x1) + 1 ∧ ((up V16 (V16 x0 31) ((12 * x1) + (V16 (V16 x0 30) x1)) z16) (V16 x0 30) x1) + 1 ≤ 2147483647 ∧ -2147483648 ≤ (-1) - ((12 * x1) + (V16 (V16 x0 30) x1)) ∧ (-1) - ((12 * x1) + (V16 (V16 x0 30) x1)) ≤ 2147483647 ∧ S16.1 (V16 x0 48) = 20 ∧ 0 ≤ (V16 x0 51) ∧ (V16 x0 51) < S16.2.1 (V16 x0 48) ∧ S16.1 (V16 x0 49) = 20 ∧ (V16 x0 51) < S16.2.1 (V16 x0 49) ∧ S16.1 (V16 x0 50) = 20 ∧ (V16 x0 51) < S16.2.1 (V16 x0 50) ∧ -2147483648 ≤ (V16 x0 51) + 1 ∧ (V16 x0 51) + 1 ≤ 2147483647 ∧ CT l G bX12_next d mc16 ms16 [vr x0] S16 (up (up (up (up (up (up V16 (V16 x0 31) ((12 * x1) + (V16 (V16 x0 30) x1)) z16) (V16 x0 30) x1 (((up V16 (V16 x0 31) ((12 * x1) + (V16 (V16 x0 30) x1)) z16) (V16 x0 30) x1) + 1)) (V16 x0 48) (V16 x0 51) ((-1) - ((12 * x1) + (V16 (V16 x0 30) x1)))) (V16 x0 49) (V16 x0 51) (-1)) (V16 x0 50) (V16 x0 51) z16) x0 51 ((V16 x0 51) + 1)) (fun z19 S19 V19 mc19 ms19 => S19.1 x0 = 13 ∧ CT l G bX12_sign d mc19 ms19 [vr x0, vi 58] S19 V19 (fun z21 S21 V21 mc21 ms21 => S21.1 x0 = 13 ∧ CT l G bX12_readExpr d mc21 ms21 [vr x0, vi 0, vi 0, vi 0] S21 V21 (fun z23 S23 V23 mc23 ms23 => S23.1 (V21 x0 33) = 20 ∧ 0 ≤ ((12 * x1) + (V16 (V16 x0 30) x1)) ∧ ((12 * x1) + (V16 (V16 x0 30) x1)) < S23.2.1 (V21 x0 33) ∧ S23.1 x0 = 13 ∧ CT l G bX12_sign d mc23 ms23 [vr x0, vi 59] S23 (up V23 (V21 x0 33) ((12 * x1) + (V16 (V16 x0 30) x1)) z23) (fun z25 S25 V25 mc25 ms25 => Q 0 S25 V25))))) ∧ (¬ ((V16 x0 46) ≤ 0) → Q 0 S16 V16))) ∧ (¬ (z13 = 0) → (x2 ≠ 0 → -2147483648 ≤ x3 + 1 ∧ x3 + 1 ≤ 2147483647 ∧ XJ l G bX12_readCase Q d 26 [vr x0, vi x1, vi 1, vi (x3 + 1), vu] [] S13 V13 mc13 ms13) ∧ (¬ (x2 ≠ 0) → S13.1 x0 = 13 ∧ CT l G bX12_nameHere d mc13 ms13 [vr x0] S13 V13 (fun z28 S28 V28 mc28 ms28 => S28.1 x0 = 13 ∧ -2147483648 ≤ 12 * x1 ∧ 12 * x1 ≤ 2147483647 ∧ -2147483648 ≤ (12 * x1) + x3 ∧ (12 * x1) + x3 ≤ 2147483647 ∧ S28.1 (V28 x0 31) = 20 ∧ 0 ≤ ((12 * x1) + x3) ∧ ((12 * x1) + x3) < S28.2.1 (V28 x0 31) ∧ CT l G bX12_isSame d mc28 ms28 [vr x0, vi z28, vi (V28 (V28 x0 31) ((12 * x1) + x3))] S28 V28 (fun z30 S30 V30 mc30 ms30 => (z30 = 0 → -2147483648 ≤ x3 + 1 ∧ x3 + 1 ≤ 2147483647 ∧ XJ l G bX12_readCase Q d 26 [vr x0, vi x1, vi 0, vi (x3 + 1), vu] [] S30 V30 mc30 ms30) ∧ (¬ (z30 = 0) → -2147483648 ≤ x3 + 1 ∧ x3 + 1 ≤ 2147483647 ∧ XJ l G bX12_readCase Q d 26 [vr x0, vi x1, vi 1, vi (x3 + 1), vu] [] S30 V30 mc30 ms30)))))))) : XJ l G bX12_readCase Q d 26 [vr x0, vi x1, vi x2, vi x3, vu] [] S V mc ms := by
  refine X_iload_n dX12_readCase_26 rfl ?_
  refine X_aload_n dX12_readCase_27 rfl ?_
  refine X_getfield (ci := 12) (k := 30) (v := vr (V x0 30)) dX12_readCase_28 rfl (by decide) kf_RX12_77 rfl h.1 ?_
  refine X_iload_n dX12_readCase_31 rfl ?_
  refine X_iaload dX12_readCase_32 h.2.1 h.2.2.1 h.2.2.2.1 ?_
  refine X_icmp_ge dX12_readCase_33 (tgt := 81) rfl (fun c1 => ?_) (fun c1 => ?_)
  · refine X_aload_n dX12_readCase_81 rfl ?_
    refine X_iload_n dX12_readCase_82 rfl ?_
    refine X_invV (ci := 12) (as := [vi x2]) (st := []) okX12_newName dX12_readCase_83 km_RX12_314 rfl rfl (Nat.le_of_ble_eq_true rfl) rfl rfl h.1 (CT.imp (h.2.2.2.2.1 c1) (fun z2 S2 V2 mc2 ms2 hc3 => ?_))
    refine X_istore_n dX12_readCase_86 (by decide) rfl ?_
    refine X_aload_n dX12_readCase_87 rfl ?_
    refine X_getfield (ci := 12) (k := 46) (v := vi (V2 x0 46)) dX12_readCase_88 rfl (by decide) kf_RX12_275 rfl hc3.1 ?_
    refine X_if_le dX12_readCase_91 (tgt := 95) rfl (fun c4 => ?_) (fun c4 => ?_)
    · refine X_bipush dX12_readCase_95 (by decide) (by decide) ?_
      refine X_iload_n dX12_readCase_97 rfl ?_
      refine X_imulN dX12_readCase_98 (hc3.2.1 c4).1 (hc3.2.1 c4).2.1 ?_
      refine X_aload_n dX12_readCase_99 rfl ?_
      refine X_getfield (ci := 12) (k := 30) (v := vr (V2 x0 30)) dX12_readCase_100 rfl (by decide) kf_RX12_77 rfl hc3.1 ?_
      refine X_iload_n dX12_readCase_103 rfl ?_
      refine X_iaload dX12_readCase_104 (hc3.2.1 c4).2.2.1 (hc3.2.1 c4).2.2.2.1 (hc3.2.1 c4).2.2.2.2.1 ?_
      refine X_iaddN dX12_readCase_105 (hc3.2.1 c4).2.2.2.2.2.1 (hc3.2.1 c4).2.2.2.2.2.2.1 ?_
      refine X_istore dX12_readCase_106 (by decide) rfl ?_
      refine X_aload_n dX12_readCase_108 rfl ?_
      refine X_getfield (ci := 12) (k := 31) (v := vr (V2 x0 31)) dX12_readCase_109 rfl (by decide) kf_RX12_80 rfl hc3.1 ?_
      refine X_iload dX12_readCase_112 rfl ?_
      refine X_iload_n dX12_readCase_114 rfl ?_
      refine X_iastore dX12_readCase_115 (hc3.2.1 c4).2.2.2.2.2.2.2.1 (hc3.2.1 c4).2.2.2.2.2.2.2.2.1 (hc3.2.1 c4).2.2.2.2.2.2.2.2.2.1 ?_
      refine X_aload_n dX12_readCase_116 rfl ?_
      refine X_getfield (ci := 12) (k := 30) (v := vr (V2 x0 30)) dX12_readCase_117 rfl (by decide) kf_RX12_77 (congrArg vr (up_ne (Or.inl (tag_ne hc3.1 (hc3.2.1 c4).2.2.2.2.2.2.2.1 (by decide))))) hc3.1 ?_
      refine X_iload_n dX12_readCase_120 rfl ?_
      refine X_dup2 dX12_readCase_121 rfl (rv_cat _) ?_
      refine X_iaload dX12_readCase_122 (hc3.2.1 c4).2.2.1 (hc3.2.1 c4).2.2.2.1 (hc3.2.1 c4).2.2.2.2.1 ?_
      refine X_iconst dX12_readCase_123 (by decide) ?_
      refine X_iaddN dX12_readCase_124 (hc3.2.1 c4).2.2.2.2.2.2.2.2.2.2.1 (hc3.2.1 c4).2.2.2.2.2.2.2.2.2.2.2.1 ?_
      refine X_iastore dX12_readCase_125 (hc3.2.1 c4).2.2.1 (hc3.2.1 c4).2.2.2.1 (hc3.2.1 c4).2.2.2.2.1 ?_
      refine X_aload_n dX12_readCase_126 rfl ?_
      refine X_getfield (ci := 12) (k := 48) (v := vr (V2 x0 48)) dX12_readCase_127 rfl (by decide) kf_RX12_107 (congrArg vr ((up_ne (Or.inl (tag_ne hc3.1 (hc3.2.1 c4).2.2.1 (by decide)))).trans (up_ne (Or.inl (tag_ne hc3.1 (hc3.2.1 c4).2.2.2.2.2.2.2.1 (by decide)))))) hc3.1 ?_
      refine X_aload_n dX12_readCase_130 rfl ?_
      refine X_getfield (ci := 12) (k := 51) (v := vi (V2 x0 51)) dX12_readCase_131 rfl (by decide) kf_RX12_301 (congrArg vi ((up_ne (Or.inl (tag_ne hc3.1 (hc3.2.1 c4).2.2.1 (by decide)))).trans (up_ne (Or.inl (tag_ne hc3.1 (hc3.2.1 c4).2.2.2.2.2.2.2.1 (by decide)))))) hc3.1 ?_
      refine X_iconst dX12_readCase_134 (by decide) ?_
      refine X_iload dX12_readCase_135 rfl ?_
      refine X_isubN dX12_readCase_137 (hc3.2.1 c4).2.2.2.2.2.2.2.2.2.2.2.2.1 (hc3.2.1 c4).2.2.2.2.2.2.2.2.2.2.2.2.2.1 ?_
      refine X_iastore dX12_readCase_138 (hc3.2.1 c4).2.2.2.2.2.2.2.2.2.2.2.2.2.2.1 (hc3.2.1 c4).2.2.2.2.2.2.2.2.2.2.2.2.2.2.2.1 (hc3.2.1 c4).2.2.2.2.2.2.2.2.2.2.2.2.2.2.2.2.1 ?_
      refine X_aload_n dX12_readCase_139 rfl ?_
      refine X_getfield (ci := 12) (k := 49) (v := vr (V2 x0 49)) dX12_readCase_140 rfl (by decide) kf_RX12_110 (congrArg vr ((up_ne (Or.inl (tag_ne hc3.1 (hc3.2.1 c4).2.2.2.2.2.2.2.2.2.2.2.2.2.2.1 (by decide)))).trans ((up_ne (Or.inl (tag_ne hc3.1 (hc3.2.1 c4).2.2.1 (by decide)))).trans (up_ne (Or.inl (tag_ne hc3.1 (hc3.2.1 c4).2.2.2.2.2.2.2.1 (by decide))))))) hc3.1 ?_
      refine X_aload_n dX12_readCase_143 rfl ?_
      refine X_getfield (ci := 12) (k := 51) (v := vi (V2 x0 51)) dX12_readCase_144 rfl (by decide) kf_RX12_301 (congrArg vi ((up_ne (Or.inl (tag_ne hc3.1 (hc3.2.1 c4).2.2.2.2.2.2.2.2.2.2.2.2.2.2.1 (by decide)))).trans ((up_ne (Or.inl (tag_ne hc3.1 (hc3.2.1 c4).2.2.1 (by decide)))).trans (up_ne (Or.inl (tag_ne hc3.1 (hc3.2.1 c4).2.2.2.2.2.2.2.1 (by decide))))))) hc3.1 ?_
      refine X_iconst dX12_readCase_147 (by decide) ?_
      refine X_iastore dX12_readCase_148 (hc3.2.1 c4).2.2.2.2.2.2.2.2.2.2.2.2.2.2.2.2.2.1 (hc3.2.1 c4).2.2.2.2.2.2.2.2.2.2.2.2.2.2.2.1 (hc3.2.1 c4).2.2.2.2.2.2.2.2.2.2.2.2.2.2.2.2.2.2.1 ?_
      refine X_aload_n dX12_readCase_149 rfl ?_
      refine X_getfield (ci := 12) (k := 50) (v := vr (V2 x0 50)) dX12_readCase_150 rfl (by decide) kf_RX12_113 (congrArg vr ((up_ne (Or.inl (tag_ne hc3.1 (hc3.2.1 c4).2.2.2.2.2.2.2.2.2.2.2.2.2.2.2.2.2.1 (by decide)))).trans ((up_ne (Or.inl (tag_ne hc3.1 (hc3.2.1 c4).2.2.2.2.2.2.2.2.2.2.2.2.2.2.1 (by decide)))).trans ((up_ne (Or.inl (tag_ne hc3.1 (hc3.2.1 c4).2.2.1 (by decide)))).trans (up_ne (Or.inl (tag_ne hc3.1 (hc3.2.1 c4).2.2.2.2.2.2.2.1 (by decide)))))))) hc3.1 ?_
      refine X_aload_n dX12_readCase_153 rfl ?_
      refine X_getfield (ci := 12) (k := 51) (v := vi (V2 x0 51)) dX12_readCase_154 rfl (by decide) kf_RX12_301 (congrArg vi ((up_ne (Or.inl (tag_ne hc3.1 (hc3.2.1 c4).2.2.2.2.2.2.2.2.2.2.2.2.2.2.2.2.2.1 (by decide)))).trans ((up_ne (Or.inl (tag_ne hc3.1 (hc3.2.1 c4).2.2.2.2.2.2.2.2.2.2.2.2.2.2.1 (by decide)))).trans ((up_ne (Or.inl (tag_ne hc3.1 (hc3.2.1 c4).2.2.1 (by decide)))).trans (up_ne (Or.inl (tag_ne hc3.1 (hc3.2.1 c4).2.2.2.2.2.2.2.1 (by decide)))))))) hc3.1 ?_
      refine X_iload_n dX12_readCase_157 rfl ?_
      refine X_iastore dX12_readCase_158 (hc3.2.1 c4).2.2.2.2.2.2.2.2.2.2.2.2.2.2.2.2.2.2.2.1 (hc3.2.1 c4).2.2.2.2.2.2.2.2.2.2.2.2.2.2.2.1 (hc3.2.1 c4).2.2.2.2.2.2.2.2.2.2.2.2.2.2.2.2.2.2.2.2.1 ?_
      refine X_aload_n dX12_readCase_159 rfl ?_
      refine X_dup dX12_readCase_160 (rv_cat _) ?_
      refine X_getfield (ci := 12) (k := 51) (v := vi (V2 x0 51)) dX12_readCase_161 rfl (by decide) kf_RX12_301 (congrArg vi ((up_ne (Or.inl (tag_ne hc3.1 (hc3.2.1 c4).2.2.2.2.2.2.2.2.2.2.2.2.2.2.2.2.2.2.2.1 (by decide)))).trans ((up_ne (Or.inl (tag_ne hc3.1 (hc3.2.1 c4).2.2.2.2.2.2.2.2.2.2.2.2.2.2.2.2.2.1 (by decide)))).trans ((up_ne (Or.inl (tag_ne hc3.1 (hc3.2.1 c4).2.2.2.2.2.2.2.2.2.2.2.2.2.2.1 (by decide)))).trans ((up_ne (Or.inl (tag_ne hc3.1 (hc3.2.1 c4).2.2.1 (by decide)))).trans (up_ne (Or.inl (tag_ne hc3.1 (hc3.2.1 c4).2.2.2.2.2.2.2.1 (by decide))))))))) hc3.1 ?_
      refine X_iconst dX12_readCase_164 (by decide) ?_
      refine X_iaddN dX12_readCase_165 (hc3.2.1 c4).2.2.2.2.2.2.2.2.2.2.2.2.2.2.2.2.2.2.2.2.2.1 (hc3.2.1 c4).2.2.2.2.2.2.2.2.2.2.2.2.2.2.2.2.2.2.2.2.2.2.1 ?_
      refine X_putfield (ci := 12) (k := 51) (z := ((V2 x0 51) + 1)) dX12_readCase_166 rfl (by decide) kf_RX12_301 (Or.inl rfl) (Or.inl rfl) rfl (fun hv => hv) hc3.1 ?_
      refine X_aload_n dX12_readCase_169 rfl ?_
      refine X_invV (ci := 12) (as := []) (st := []) okX12_next dX12_readCase_170 km_RX12_285 rfl rfl (Nat.le_of_ble_eq_true rfl) rfl rfl hc3.1 (CT.imp (hc3.2.1 c4).2.2.2.2.2.2.2.2.2.2.2.2.2.2.2.2.2.2.2.2.2.2.2 (fun z5 S5 V5 mc5 ms5 hc6 => ?_))
      refine X_aload_n dX12_readCase_173 rfl ?_
      refine X_bipush dX12_readCase_174 (by decide) (by decide) ?_
      refine X_invV (ci := 12) (as := [vi 58]) (st := []) okX12_sign dX12_readCase_176 km_RX12_318 rfl rfl (Nat.le_of_ble_eq_true rfl) rfl rfl hc6.1 (CT.imp hc6.2 (fun z7 S7 V7 mc7 ms7 hc8 => ?_))
      refine X_aload_n dX12_readCase_179 rfl ?_
      refine X_getfield (ci := 12) (k := 33) (v := vr (V7 x0 33)) dX12_readCase_180 rfl (by decide) kf_RX12_86 rfl hc8.1 ?_
      refine X_iload dX12_readCase_183 rfl ?_
      refine X_aload_n dX12_readCase_185 rfl ?_
      refine X_iconst dX12_readCase_186 (by decide) ?_
      refine X_iconst dX12_readCase_187 (by decide) ?_
      refine X_iconst dX12_readCase_188 (by decide) ?_
      refine X_invV (ci := 12) (as := [vi 0, vi 0, vi 0]) (st := [vi ((12 * x1) + (V2 (V2 x0 30) x1)), vr (V7 x0 33)]) okX12_readExpr dX12_readCase_189 km_RX12_331 rfl rfl (Nat.le_of_ble_eq_true rfl) rfl rfl hc8.1 (CT.imp hc8.2 (fun z9 S9 V9 mc9 ms9 hc10 => ?_))
      refine X_iastore dX12_readCase_192 hc10.1 hc10.2.1 hc10.2.2.1 ?_
      refine X_aload_n dX12_readCase_193 rfl ?_
      refine X_bipush dX12_readCase_194 (by decide) (by decide) ?_
      refine X_invV (ci := 12) (as := [vi 59]) (st := []) okX12_sign dX12_readCase_196 km_RX12_318 rfl rfl (Nat.le_of_ble_eq_true rfl) rfl rfl hc10.2.2.2.1 (CT.imp hc10.2.2.2.2 (fun z11 S11 V11 mc11 ms11 hc12 => ?_))
      exact X_ret (z := 0) dX12_readCase_199 rfl (fun _ => trivial) hc12
    · exact X_ret (z := 0) dX12_readCase_94 rfl (fun _ => trivial) (hc3.2.2 c4)
  · refine X_aload_n dX12_readCase_36 rfl ?_
    refine X_invV (ci := 12) (as := []) (st := []) okX12_isName dX12_readCase_37 km_RX12_291 rfl rfl (Nat.le_of_ble_eq_true rfl) rfl rfl h.1 (CT.imp (h.2.2.2.2.2 c1) (fun z13 S13 V13 mc13 ms13 hc14 => ?_))
    refine X_if_eq dX12_readCase_40 (tgt := 81) rfl (fun c15 => ?_) (fun c15 => ?_)
    · refine X_aload_n dX12_readCase_81 rfl ?_
      refine X_iload_n dX12_readCase_82 rfl ?_
      refine X_invV (ci := 12) (as := [vi x2]) (st := []) okX12_newName dX12_readCase_83 km_RX12_314 rfl rfl (Nat.le_of_ble_eq_true rfl) rfl rfl (hc14.1 c15).1 (CT.imp (hc14.1 c15).2 (fun z16 S16 V16 mc16 ms16 hc17 => ?_))
      refine X_istore_n dX12_readCase_86 (by decide) rfl ?_
      refine X_aload_n dX12_readCase_87 rfl ?_
      refine X_getfield (ci := 12) (k := 46) (v := vi (V16 x0 46)) dX12_readCase_88 rfl (by decide) kf_RX12_275 rfl hc17.1 ?_
      refine X_if_le dX12_readCase_91 (tgt := 95) rfl (fun c18 => ?_) (fun c18 => ?_)
      · refine X_bipush dX12_readCase_95 (by decide) (by decide) ?_
        refine X_iload_n dX12_readCase_97 rfl ?_
        refine X_imulN dX12_readCase_98 (hc17.2.1 c18).1 (hc17.2.1 c18).2.1 ?_
        refine X_aload_n dX12_readCase_99 rfl ?_
        refine X_getfield (ci := 12) (k := 30) (v := vr (V16 x0 30)) dX12_readCase_100 rfl (by decide) kf_RX12_77 rfl hc17.1 ?_
        refine X_iload_n dX12_readCase_103 rfl ?_
        refine X_iaload dX12_readCase_104 (hc17.2.1 c18).2.2.1 (hc17.2.1 c18).2.2.2.1 (hc17.2.1 c18).2.2.2.2.1 ?_
        refine X_iaddN dX12_readCase_105 (hc17.2.1 c18).2.2.2.2.2.1 (hc17.2.1 c18).2.2.2.2.2.2.1 ?_
        refine X_istore dX12_readCase_106 (by decide) rfl ?_
        refine X_aload_n dX12_readCase_108 rfl ?_
        refine X_getfield (ci := 12) (k := 31) (v := vr (V16 x0 31)) dX12_readCase_109 rfl (by decide) kf_RX12_80 rfl hc17.1 ?_
        refine X_iload dX12_readCase_112 rfl ?_
        refine X_iload_n dX12_readCase_114 rfl ?_
        refine X_iastore dX12_readCase_115 (hc17.2.1 c18).2.2.2.2.2.2.2.1 (hc17.2.1 c18).2.2.2.2.2.2.2.2.1 (hc17.2.1 c18).2.2.2.2.2.2.2.2.2.1 ?_
        refine X_aload_n dX12_readCase_116 rfl ?_
        refine X_getfield (ci := 12) (k := 30) (v := vr (V16 x0 30)) dX12_readCase_117 rfl (by decide) kf_RX12_77 (congrArg vr (up_ne (Or.inl (tag_ne hc17.1 (hc17.2.1 c18).2.2.2.2.2.2.2.1 (by decide))))) hc17.1 ?_
        refine X_iload_n dX12_readCase_120 rfl ?_
        refine X_dup2 dX12_readCase_121 rfl (rv_cat _) ?_
        refine X_iaload dX12_readCase_122 (hc17.2.1 c18).2.2.1 (hc17.2.1 c18).2.2.2.1 (hc17.2.1 c18).2.2.2.2.1 ?_
        refine X_iconst dX12_readCase_123 (by decide) ?_
        refine X_iaddN dX12_readCase_124 (hc17.2.1 c18).2.2.2.2.2.2.2.2.2.2.1 (hc17.2.1 c18).2.2.2.2.2.2.2.2.2.2.2.1 ?_
        refine X_iastore dX12_readCase_125 (hc17.2.1 c18).2.2.1 (hc17.2.1 c18).2.2.2.1 (hc17.2.1 c18).2.2.2.2.1 ?_
        refine X_aload_n dX12_readCase_126 rfl ?_
        refine X_getfield (ci := 12) (k := 48) (v := vr (V16 x0 48)) dX12_readCase_127 rfl (by decide) kf_RX12_107 (congrArg vr ((up_ne (Or.inl (tag_ne hc17.1 (hc17.2.1 c18).2.2.1 (by decide)))).trans (up_ne (Or.inl (tag_ne hc17.1 (hc17.2.1 c18).2.2.2.2.2.2.2.1 (by decide)))))) hc17.1 ?_
        refine X_aload_n dX12_readCase_130 rfl ?_
        refine X_getfield (ci := 12) (k := 51) (v := vi (V16 x0 51)) dX12_readCase_131 rfl (by decide) kf_RX12_301 (congrArg vi ((up_ne (Or.inl (tag_ne hc17.1 (hc17.2.1 c18).2.2.1 (by decide)))).trans (up_ne (Or.inl (tag_ne hc17.1 (hc17.2.1 c18).2.2.2.2.2.2.2.1 (by decide)))))) hc17.1 ?_
        refine X_iconst dX12_readCase_134 (by decide) ?_
        refine X_iload dX12_readCase_135 rfl ?_
        refine X_isubN dX12_readCase_137 (hc17.2.1 c18).2.2.2.2.2.2.2.2.2.2.2.2.1 (hc17.2.1 c18).2.2.2.2.2.2.2.2.2.2.2.2.2.1 ?_
        refine X_iastore dX12_readCase_138 (hc17.2.1 c18).2.2.2.2.2.2.2.2.2.2.2.2.2.2.1 (hc17.2.1 c18).2.2.2.2.2.2.2.2.2.2.2.2.2.2.2.1 (hc17.2.1 c18).2.2.2.2.2.2.2.2.2.2.2.2.2.2.2.2.1 ?_
        refine X_aload_n dX12_readCase_139 rfl ?_
        refine X_getfield (ci := 12) (k := 49) (v := vr (V16 x0 49)) dX12_readCase_140 rfl (by decide) kf_RX12_110 (congrArg vr ((up_ne (Or.inl (tag_ne hc17.1 (hc17.2.1 c18).2.2.2.2.2.2.2.2.2.2.2.2.2.2.1 (by decide)))).trans ((up_ne (Or.inl (tag_ne hc17.1 (hc17.2.1 c18).2.2.1 (by decide)))).trans (up_ne (Or.inl (tag_ne hc17.1 (hc17.2.1 c18).2.2.2.2.2.2.2.1 (by decide))))))) hc17.1 ?_
        refine X_aload_n dX12_readCase_143 rfl ?_
        refine X_getfield (ci := 12) (k := 51) (v := vi (V16 x0 51)) dX12_readCase_144 rfl (by decide) kf_RX12_301 (congrArg vi ((up_ne (Or.inl (tag_ne hc17.1 (hc17.2.1 c18).2.2.2.2.2.2.2.2.2.2.2.2.2.2.1 (by decide)))).trans ((up_ne (Or.inl (tag_ne hc17.1 (hc17.2.1 c18).2.2.1 (by decide)))).trans (up_ne (Or.inl (tag_ne hc17.1 (hc17.2.1 c18).2.2.2.2.2.2.2.1 (by decide))))))) hc17.1 ?_
        refine X_iconst dX12_readCase_147 (by decide) ?_
        refine X_iastore dX12_readCase_148 (hc17.2.1 c18).2.2.2.2.2.2.2.2.2.2.2.2.2.2.2.2.2.1 (hc17.2.1 c18).2.2.2.2.2.2.2.2.2.2.2.2.2.2.2.1 (hc17.2.1 c18).2.2.2.2.2.2.2.2.2.2.2.2.2.2.2.2.2.2.1 ?_
        refine X_aload_n dX12_readCase_149 rfl ?_
        refine X_getfield (ci := 12) (k := 50) (v := vr (V16 x0 50)) dX12_readCase_150 rfl (by decide) kf_RX12_113 (congrArg vr ((up_ne (Or.inl (tag_ne hc17.1 (hc17.2.1 c18).2.2.2.2.2.2.2.2.2.2.2.2.2.2.2.2.2.1 (by decide)))).trans ((up_ne (Or.inl (tag_ne hc17.1 (hc17.2.1 c18).2.2.2.2.2.2.2.2.2.2.2.2.2.2.1 (by decide)))).trans ((up_ne (Or.inl (tag_ne hc17.1 (hc17.2.1 c18).2.2.1 (by decide)))).trans (up_ne (Or.inl (tag_ne hc17.1 (hc17.2.1 c18).2.2.2.2.2.2.2.1 (by decide)))))))) hc17.1 ?_
        refine X_aload_n dX12_readCase_153 rfl ?_
        refine X_getfield (ci := 12) (k := 51) (v := vi (V16 x0 51)) dX12_readCase_154 rfl (by decide) kf_RX12_301 (congrArg vi ((up_ne (Or.inl (tag_ne hc17.1 (hc17.2.1 c18).2.2.2.2.2.2.2.2.2.2.2.2.2.2.2.2.2.1 (by decide)))).trans ((up_ne (Or.inl (tag_ne hc17.1 (hc17.2.1 c18).2.2.2.2.2.2.2.2.2.2.2.2.2.2.1 (by decide)))).trans ((up_ne (Or.inl (tag_ne hc17.1 (hc17.2.1 c18).2.2.1 (by decide)))).trans (up_ne (Or.inl (tag_ne hc17.1 (hc17.2.1 c18).2.2.2.2.2.2.2.1 (by decide)))))))) hc17.1 ?_
        refine X_iload_n dX12_readCase_157 rfl ?_
        refine X_iastore dX12_readCase_158 (hc17.2.1 c18).2.2.2.2.2.2.2.2.2.2.2.2.2.2.2.2.2.2.2.1 (hc17.2.1 c18).2.2.2.2.2.2.2.2.2.2.2.2.2.2.2.1 (hc17.2.1 c18).2.2.2.2.2.2.2.2.2.2.2.2.2.2.2.2.2.2.2.2.1 ?_
        refine X_aload_n dX12_readCase_159 rfl ?_
        refine X_dup dX12_readCase_160 (rv_cat _) ?_
        refine X_getfield (ci := 12) (k := 51) (v := vi (V16 x0 51)) dX12_readCase_161 rfl (by decide) kf_RX12_301 (congrArg vi ((up_ne (Or.inl (tag_ne hc17.1 (hc17.2.1 c18).2.2.2.2.2.2.2.2.2.2.2.2.2.2.2.2.2.2.2.1 (by decide)))).trans ((up_ne (Or.inl (tag_ne hc17.1 (hc17.2.1 c18).2.2.2.2.2.2.2.2.2.2.2.2.2.2.2.2.2.1 (by decide)))).trans ((up_ne (Or.inl (tag_ne hc17.1 (hc17.2.1 c18).2.2.2.2.2.2.2.2.2.2.2.2.2.2.1 (by decide)))).trans ((up_ne (Or.inl (tag_ne hc17.1 (hc17.2.1 c18).2.2.1 (by decide)))).trans (up_ne (Or.inl (tag_ne hc17.1 (hc17.2.1 c18).2.2.2.2.2.2.2.1 (by decide))))))))) hc17.1 ?_
        refine X_iconst dX12_readCase_164 (by decide) ?_
        refine X_iaddN dX12_readCase_165 (hc17.2.1 c18).2.2.2.2.2.2.2.2.2.2.2.2.2.2.2.2.2.2.2.2.2.1 (hc17.2.1 c18).2.2.2.2.2.2.2.2.2.2.2.2.2.2.2.2.2.2.2.2.2.2.1 ?_
        refine X_putfield (ci := 12) (k := 51) (z := ((V16 x0 51) + 1)) dX12_readCase_166 rfl (by decide) kf_RX12_301 (Or.inl rfl) (Or.inl rfl) rfl (fun hv => hv) hc17.1 ?_
        refine X_aload_n dX12_readCase_169 rfl ?_
        refine X_invV (ci := 12) (as := []) (st := []) okX12_next dX12_readCase_170 km_RX12_285 rfl rfl (Nat.le_of_ble_eq_true rfl) rfl rfl hc17.1 (CT.imp (hc17.2.1 c18).2.2.2.2.2.2.2.2.2.2.2.2.2.2.2.2.2.2.2.2.2.2.2 (fun z19 S19 V19 mc19 ms19 hc20 => ?_))
        refine X_aload_n dX12_readCase_173 rfl ?_
        refine X_bipush dX12_readCase_174 (by decide) (by decide) ?_
        refine X_invV (ci := 12) (as := [vi 58]) (st := []) okX12_sign dX12_readCase_176 km_RX12_318 rfl rfl (Nat.le_of_ble_eq_true rfl) rfl rfl hc20.1 (CT.imp hc20.2 (fun z21 S21 V21 mc21 ms21 hc22 => ?_))
        refine X_aload_n dX12_readCase_179 rfl ?_
        refine X_getfield (ci := 12) (k := 33) (v := vr (V21 x0 33)) dX12_readCase_180 rfl (by decide) kf_RX12_86 rfl hc22.1 ?_
        refine X_iload dX12_readCase_183 rfl ?_
        refine X_aload_n dX12_readCase_185 rfl ?_
        refine X_iconst dX12_readCase_186 (by decide) ?_
        refine X_iconst dX12_readCase_187 (by decide) ?_
        refine X_iconst dX12_readCase_188 (by decide) ?_
        refine X_invV (ci := 12) (as := [vi 0, vi 0, vi 0]) (st := [vi ((12 * x1) + (V16 (V16 x0 30) x1)), vr (V21 x0 33)]) okX12_readExpr dX12_readCase_189 km_RX12_331 rfl rfl (Nat.le_of_ble_eq_true rfl) rfl rfl hc22.1 (CT.imp hc22.2 (fun z23 S23 V23 mc23 ms23 hc24 => ?_))
        refine X_iastore dX12_readCase_192 hc24.1 hc24.2.1 hc24.2.2.1 ?_
        refine X_aload_n dX12_readCase_193 rfl ?_
        refine X_bipush dX12_readCase_194 (by decide) (by decide) ?_
        refine X_invV (ci := 12) (as := [vi 59]) (st := []) okX12_sign dX12_readCase_196 km_RX12_318 rfl rfl (Nat.le_of_ble_eq_true rfl) rfl rfl hc24.2.2.2.1 (CT.imp hc24.2.2.2.2 (fun z25 S25 V25 mc25 ms25 hc26 => ?_))
        exact X_ret (z := 0) dX12_readCase_199 rfl (fun _ => trivial) hc26
      · exact X_ret (z := 0) dX12_readCase_94 rfl (fun _ => trivial) (hc17.2.2 c18)
    · refine X_iload_n dX12_readCase_43 rfl ?_
      refine X_if_ne dX12_readCase_44 (tgt := 69) rfl (fun c27 => ?_) (fun c27 => ?_)
      · refine X_iconst dX12_readCase_69 (by decide) ?_
        refine X_goto dX12_readCase_70 (tgt := 74) rfl ?_
        refine X_istore_n dX12_readCase_74 (by decide) rfl ?_
        refine X_iincN dX12_readCase_75 rfl (by decide) rfl (e := x3 + 1) rfl ((hc14.2 c15).1 c27).1 ((hc14.2 c15).1 c27).2.1 ?_
        refine X_goto dX12_readCase_78 (tgt := 26) rfl ?_
        exact ((hc14.2 c15).1 c27).2.2
      · refine X_aload_n dX12_readCase_47 rfl ?_
        refine X_aload_n dX12_readCase_48 rfl ?_
        refine X_invV (ci := 12) (as := []) (st := [vr x0]) okX12_nameHere dX12_readCase_49 km_RX12_294 rfl rfl (Nat.le_of_ble_eq_true rfl) rfl rfl ((hc14.2 c15).2 c27).1 (CT.imp ((hc14.2 c15).2 c27).2 (fun z28 S28 V28 mc28 ms28 hc29 => ?_))
        refine X_aload_n dX12_readCase_52 rfl ?_
        refine X_getfield (ci := 12) (k := 31) (v := vr (V28 x0 31)) dX12_readCase_53 rfl (by decide) kf_RX12_80 rfl hc29.1 ?_
        refine X_bipush dX12_readCase_56 (by decide) (by decide) ?_
        refine X_iload_n dX12_readCase_58 rfl ?_
        refine X_imulN dX12_readCase_59 hc29.2.1 hc29.2.2.1 ?_
        refine X_iload_n dX12_readCase_60 rfl ?_
        refine X_iaddN dX12_readCase_61 hc29.2.2.2.1 hc29.2.2.2.2.1 ?_
        refine X_iaload dX12_readCase_62 hc29.2.2.2.2.2.1 hc29.2.2.2.2.2.2.1 hc29.2.2.2.2.2.2.2.1 ?_
        refine X_invV (ci := 12) (as := [vi z28, vi (V28 (V28 x0 31) ((12 * x1) + x3))]) (st := []) okX12_isSame dX12_readCase_63 km_RX12_297 rfl rfl (Nat.le_of_ble_eq_true rfl) rfl rfl hc29.1 (CT.imp hc29.2.2.2.2.2.2.2.2 (fun z30 S30 V30 mc30 ms30 hc31 => ?_))
        refine X_if_eq dX12_readCase_66 (tgt := 73) rfl (fun c32 => ?_) (fun c32 => ?_)
        · refine X_iconst dX12_readCase_73 (by decide) ?_
          refine X_istore_n dX12_readCase_74 (by decide) rfl ?_
          refine X_iincN dX12_readCase_75 rfl (by decide) rfl (e := x3 + 1) rfl (hc31.1 c32).1 (hc31.1 c32).2.1 ?_
          refine X_goto dX12_readCase_78 (tgt := 26) rfl ?_
          exact (hc31.1 c32).2.2
        · refine X_iconst dX12_readCase_69 (by decide) ?_
          refine X_goto dX12_readCase_70 (tgt := 74) rfl ?_
          refine X_istore_n dX12_readCase_74 (by decide) rfl ?_
          refine X_iincN dX12_readCase_75 rfl (by decide) rfl (e := x3 + 1) rfl (hc31.2 c32).1 (hc31.2 c32).2.1 ?_
          refine X_goto dX12_readCase_78 (tgt := 26) rfl ?_
          exact (hc31.2 c32).2.2
theorem qX12_readCase {l : Launch} {G : GT} {Q : Int → Sh → Mem → Prop} {d : Nat} {S : Sh} {V : Mem} {mc ms : Nat} {x0 x1 : Int} (h : 0 ≤ x0 → inI x1 → XJ l G bX12_readCase Q d 0 [vr x0, vi x1, vu, vu, vu] [] S V mc ms) : Ct l G bX12_readCase Q d mc ms [vr x0, vi x1] S V := Ct.of okX12_readCase.1 trivial (Nat.le_of_ble_eq_true rfl) (fun hv => h (hv _ (List.mem_of_getElem? (i := 0) rfl)) (hv _ (List.mem_of_getElem? (i := 1) rfl)))
set_option maxRecDepth 10000 in
theorem vX12_readExpr_0 {l : Launch} {G : GT} {Q : Int → Sh → Mem → Prop} {d : Nat} {S : Sh} {V : Mem} {mc ms : Nat} {x0 x1 x2 x3 : Int} (h : S.1 x0 = 13 ∧ ((V x0 46) ≤ 0 → (x1 = 0 ∨ x1 = 1) ∧ (x2 = 0 ∨ x2 = 1) ∧ (x3 = 0 ∨ x3 = 1) ∧ CT l G bX12_readSum d mc ms [vr x0] S (up (up (up (up V x0 43 x1) x0 44 x2) x0 45 x3) x0 42 0) (fun z2 S2 V2 mc2 ms2 => Q z2 S2 V2)) ∧ (¬ ((V x0 46) ≤ 0) → Q (-1) S V)) : XJ l G bX12_readExpr Q d 0 [vr x0, vi x1, vi x2, vi x3] [] S V mc ms := by
  refine X_aload_n dX12_readExpr_0 rfl ?_
  refine X_getfield (ci := 12) (k := 46) (v := vi (V x0 46)) dX12_readExpr_1 rfl (by decide) kf_RX12_275 rfl h.1 ?_
  refine X_if_le dX12_readExpr_4 (tgt := 9) rfl (fun c1 => ?_) (fun c1 => ?_)
  · refine X_aload_n dX12_readExpr_9 rfl ?_
    refine X_iload_n dX12_readExpr_10 rfl ?_
    refine X_putfield (ci := 12) (k := 43) (z := x1) dX12_readExpr_11 rfl (by decide) kf_RX12_353 (Or.inr (Or.inr (Or.inl rfl))) (Or.inl rfl) rfl (fun _ => (h.2.1 c1).1) h.1 ?_
    refine X_aload_n dX12_readExpr_14 rfl ?_
    refine X_iload_n dX12_readExpr_15 rfl ?_
    refine X_putfield (ci := 12) (k := 44) (z := x2) dX12_readExpr_16 rfl (by decide) kf_RX12_357 (Or.inr (Or.inr (Or.inl rfl))) (Or.inl rfl) rfl (fun _ => (h.2.1 c1).2.1) h.1 ?_
    refine X_aload_n dX12_readExpr_19 rfl ?_
    refine X_iload_n dX12_readExpr_20 rfl ?_
    refine X_putfield (ci := 12) (k := 45) (z := x3) dX12_readExpr_21 rfl (by decide) kf_RX12_360 (Or.inr (Or.inr (Or.inl rfl))) (Or.inl rfl) rfl (fun _ => (h.2.1 c1).2.2.1) h.1 ?_
    refine X_aload_n dX12_readExpr_24 rfl ?_
    refine X_iconst dX12_readExpr_25 (by decide) ?_
    refine X_putfield (ci := 12) (k := 42) (z := 0) dX12_readExpr_26 rfl (by decide) kf_RX12_363 (Or.inl rfl) (Or.inl rfl) rfl (fun hv => hv) h.1 ?_
    refine X_aload_n dX12_readExpr_29 rfl ?_
    refine X_invV (ci := 12) (as := []) (st := []) okX12_readSum dX12_readExpr_30 km_RX12_366 rfl rfl (Nat.le_of_ble_eq_true rfl) rfl rfl h.1 (CT.imp (h.2.1 c1).2.2.2 (fun z2 S2 V2 mc2 ms2 hc3 => ?_))
    exact X_ret (z := z2) dX12_readExpr_33 rfl (fun hv => vok_h hv) hc3
  · refine X_iconst dX12_readExpr_7 (by decide) ?_
    exact X_ret (z := (-1)) dX12_readExpr_8 rfl (fun hv => vok_h hv) (h.2.2 c1)
theorem qX12_readExpr {l : Launch} {G : GT} {Q : Int → Sh → Mem → Prop} {d : Nat} {S : Sh} {V : Mem} {mc ms : Nat} {x0 x1 x2 x3 : Int} (h : 0 ≤ x0 → inI x1 → inI x2 → inI x3 → XJ l G bX12_readExpr Q d 0 [vr x0, vi x1, vi x2, vi x3] [] S V mc ms) : Ct l G bX12_readExpr Q d mc ms [vr x0, vi x1, vi x2, vi x3] S V := Ct.of okX12_readExpr.1 trivial (Nat.le_of_ble_eq_true rfl) (fun hv => h (hv _ (List.mem_of_getElem? (i := 0) rfl)) (hv _ (List.mem_of_getElem? (i := 1) rfl)) (hv _ (List.mem_of_getElem? (i := 2) rfl)) (hv _ (List.mem_of_getElem? (i := 3) rfl)))
set_option maxRecDepth 10000 in
theorem vX12_readSum_0 {l : Launch} {G : GT} {Q : Int → Sh → Mem → Prop} {d : Nat} {S : Sh} {V : Mem} {mc ms : Nat} {x0 : Int} (h : S.1 x0 = 13 ∧ CT l G bX12_readTerm d mc ms [vr x0] S V (fun z1 S1 V1 mc1 ms1 => XJ l G bX12_readSum Q d 5 [vr x0, vi z1, vu, vu] [] S1 V1 mc1 ms1)) : XJ l G bX12_readSum Q d 0 [vr x0, vu, vu, vu] [] S V mc ms := by
  refine X_aload_n dX12_readSum_0 rfl ?_
  refine X_invV (ci := 12) (as := []) (st := []) okX12_readTerm dX12_readSum_1 km_RX12_369 rfl rfl (Nat.le_of_ble_eq_true rfl) rfl rfl h.1 (CT.imp h.2 (fun z1 S1 V1 mc1 ms1 hc2 => ?_))
  refine X_istore_n dX12_readSum_4 (by decide) rfl ?_
  exact hc2
set_option maxRecDepth 10000 in
theorem vX12_readSum_5 {l : Launch} {G : GT} {Q : Int → Sh → Mem → Prop} {d : Nat} {S : Sh} {V : Mem} {mc ms : Nat} {x0 x1 : Int} (h : S.1 x0 = 13 ∧ ((V x0 46) ≠ 0 → Q x1 S V) ∧ (¬ ((V x0 46) ≠ 0) → CT l G bX12_isSign d mc ms [vr x0, vi 43] S V (fun z2 S2 V2 mc2 ms2 => (z2 ≠ 0 → S2.1 x0 = 13 ∧ CT l G bX12_isSign d mc2 ms2 [vr x0, vi 43] S2 V2 (fun z5 S5 V5 mc5 ms5 => (z5 = 0 → S5.1 x0 = 13 ∧ CT l G bX12_next d mc5 ms5 [vr x0] S5 V5 (fun z8 S8 V8 mc8 ms8 => S8.1 x0 = 13 ∧ CT l G bX12_readTerm d mc8 ms8 [vr x0] S8 V8 (fun z10 S10 V10 mc10 ms10 => S10.1 x0 = 13 ∧ ((V10 x0 46) ≠ 0 → XJ l G bX12_readSum Q d 5 [vr x0, vi x1, vu, vu] [] S10 V10 mc10 ms10) ∧ (¬ ((V10 x0 46) ≠ 0) → CT l G bX12_expression d mc10 ms10 [vr x0, vi 3, vi x1, vi z10] S10 V10 (fun z13 S13 V13 mc13 ms13 => XJ l G bX12_readSum Q d 5 [vr x0, vi z13, vu, vu] [] S13 V13 mc13 ms13))))) ∧ (¬ (z5 = 0) → S5.1 x0 = 13 ∧ CT l G bX12_next d mc5 ms5 [vr x0] S5 V5 (fun z15 S15 V15 mc15 ms15 => S15.1 x0 = 13 ∧ CT l G bX12_readTerm d mc15 ms15 [vr x0] S15 V15 (fun z17 S17 V17 mc17 ms17 => S17.1 x0 = 13 ∧ ((V17 x0 46) ≠ 0 → XJ l G bX12_readSum Q d 5 [vr x0, vi x1, vu, vu] [] S17 V17 mc17 ms17) ∧ (¬ ((V17 x0 46) ≠ 0) → CT l G bX12_expression d mc17 ms17 [vr x0, vi 2, vi x1, vi z17] S17 V17 (fun z20 S20 V20 mc20 ms20 => XJ l G bX12_readSum Q d 5 [vr x0, vi z20, vu, vu] [] S20 V20 mc20 ms20))))))) ∧ (¬ (z2 ≠ 0) → S2.1 x0 = 13 ∧ CT l G bX12_isSign d mc2 ms2 [vr x0, vi 45] S2 V2 (fun z22 S22 V22 mc22 ms22 => (z22 = 0 → Q x1 S22 V22) ∧ (¬ (z22 = 0) → S22.1 x0 = 13 ∧ CT l G bX12_isSign d mc22 ms22 [vr x0, vi 43] S22 V22 (fun z25 S25 V25 mc25 ms25 => (z25 = 0 → S25.1 x0 = 13 ∧ CT l G bX12_next d mc25 ms25 [vr x0] S25 V25 (fun z28 S28 V28 mc28 ms28 => S28.1 x0 = 13 ∧ CT l G bX12_readTerm d mc28 ms28 [vr x0] S28 V28 (fun z30 S30 V30 mc30 ms30 => S30.1 x0 = 13 ∧ ((V30 x0 46) ≠ 0 → XJ l G bX12_readSum Q d 5 [vr x0, vi x1, vu, vu] [] S30 V30 mc30 ms30) ∧ (¬ ((V30 x0 46) ≠ 0) → CT l G bX12_expression d mc30 ms30 [vr x0, vi 3, vi x1, vi z30] S30 V30 (fun z33 S33 V33 mc33 ms33 => XJ l G bX12_readSum Q d 5 [vr x0, vi z33, vu, vu] [] S33 V33 mc33 ms33))))) ∧ (¬ (z25 = 0) → S25.1 x0 = 13 ∧ CT l G bX12_next d mc25 ms25 [vr x0] S25 V25 (fun z35 S35 V35 mc35 ms35 => S35.1 x0 = 13 ∧ CT l G bX12_readTerm d mc35 ms35 [vr x0] S35 V35 (fun z37 S37 V37 mc37 ms37 => S37.1 x0 = 13 ∧ ((V37 x0 46) ≠ 0 → XJ l G bX12_readSum Q d 5 [vr x0, vi x1, vu, vu] [] S37 V37 mc37 ms37) ∧ (¬ ((V37 x0 46) ≠ 0) → CT l G bX12_expression d mc37 ms37 [vr x0, vi 2, vi x1, vi z37] S37 V37 (fun z40 S40 V40 mc40 ms40 => XJ l G bX12_readSum Q d 5 [vr x0, vi z40, vu, vu] [] S40 V40 mc40 ms40)))))))))))) : XJ l G bX12_readSum Q d 5 [vr x0, vi x1, vu, vu] [] S V mc ms := by
  refine X_aload_n dX12_readSum_5 rfl ?_
  refine X_getfield (ci := 12) (k := 46) (v := vi (V x0 46)) dX12_readSum_6 rfl (by decide) kf_RX12_275 rfl h.1 ?_
  refine X_if_ne dX12_readSum_9 (tgt := 72) rfl (fun c1 => ?_) (fun c1 => ?_)
  · refine X_iload_n dX12_readSum_72 rfl ?_
    exact X_ret (z := x1) dX12_readSum_73 rfl (fun hv => vok_h hv) (h.2.1 c1)
  · refine X_aload_n dX12_readSum_12 rfl ?_
    refine X_bipush dX12_readSum_13 (by decide) (by decide) ?_
    refine X_invV (ci := 12) (as := [vi 43]) (st := []) okX12_isSign dX12_readSum_15 km_RX12_281 rfl rfl (Nat.le_of_ble_eq_true rfl) rfl rfl h.1 (CT.imp (h.2.2 c1) (fun z2 S2 V2 mc2 ms2 hc3 => ?_))
    refine X_if_ne dX12_readSum_18 (tgt := 30) rfl (fun c4 => ?_) (fun c4 => ?_)
    · refine X_aload_n dX12_readSum_30 rfl ?_
      refine X_bipush dX12_readSum_31 (by decide) (by decide) ?_
      refine X_invV (ci := 12) (as := [vi 43]) (st := []) okX12_isSign dX12_readSum_33 km_RX12_281 rfl rfl (Nat.le_of_ble_eq_true rfl) rfl rfl (hc3.1 c4).1 (CT.imp (hc3.1 c4).2 (fun z5 S5 V5 mc5 ms5 hc6 => ?_))
      refine X_if_eq dX12_readSum_36 (tgt := 43) rfl (fun c7 => ?_) (fun c7 => ?_)
      · refine X_iconst dX12_readSum_43 (by decide) ?_
        refine X_istore_n dX12_readSum_44 (by decide) rfl ?_
        refine X_aload_n dX12_readSum_45 rfl ?_
        refine X_invV (ci := 12) (as := []) (st := []) okX12_next dX12_readSum_46 km_RX12_285 rfl rfl (Nat.le_of_ble_eq_true rfl) rfl rfl (hc6.1 c7).1 (CT.imp (hc6.1 c7).2 (fun z8 S8 V8 mc8 ms8 hc9 => ?_))
        refine X_aload_n dX12_readSum_49 rfl ?_
        refine X_invV (ci := 12) (as := []) (st := []) okX12_readTerm dX12_readSum_50 km_RX12_369 rfl rfl (Nat.le_of_ble_eq_true rfl) rfl rfl hc9.1 (CT.imp hc9.2 (fun z10 S10 V10 mc10 ms10 hc11 => ?_))
        refine X_istore_n dX12_readSum_53 (by decide) rfl ?_
        refine X_aload_n dX12_readSum_54 rfl ?_
        refine X_getfield (ci := 12) (k := 46) (v := vi (V10 x0 46)) dX12_readSum_55 rfl (by decide) kf_RX12_275 rfl hc11.1 ?_
        refine X_if_ne dX12_readSum_58 (tgt := 69) rfl (fun c12 => ?_) (fun c12 => ?_)
        · refine X_goto dX12_readSum_69 (tgt := 5) rfl ?_
          exact X_weak [false, false, true, true] (hc11.2.1 c12)
        · refine X_aload_n dX12_readSum_61 rfl ?_
          refine X_iload_n dX12_readSum_62 rfl ?_
          refine X_iload_n dX12_readSum_63 rfl ?_
          refine X_iload_n dX12_readSum_64 rfl ?_
          refine X_invV (ci := 12) (as := [vi 3, vi x1, vi z10]) (st := []) okX12_expression dX12_readSum_65 km_RX12_372 rfl rfl (Nat.le_of_ble_eq_true rfl) rfl rfl hc11.1 (CT.imp (hc11.2.2 c12) (fun z13 S13 V13 mc13 ms13 hc14 => ?_))
          refine X_istore_n dX12_readSum_68 (by decide) rfl ?_
          refine X_goto dX12_readSum_69 (tgt := 5) rfl ?_
          exact X_weak [false, false, true, true] hc14
      · refine X_iconst dX12_readSum_39 (by decide) ?_
        refine X_goto dX12_readSum_40 (tgt := 44) rfl ?_
        refine X_istore_n dX12_readSum_44 (by decide) rfl ?_
        refine X_aload_n dX12_readSum_45 rfl ?_
        refine X_invV (ci := 12) (as := []) (st := []) okX12_next dX12_readSum_46 km_RX12_285 rfl rfl (Nat.le_of_ble_eq_true rfl) rfl rfl (hc6.2 c7).1 (CT.imp (hc6.2 c7).2 (fun z15 S15 V15 mc15 ms15 hc16 => ?_))
        refine X_aload_n dX12_readSum_49 rfl ?_
        refine X_invV (ci := 12) (as := []) (st := []) okX12_readTerm dX12_readSum_50 km_RX12_369 rfl rfl (Nat.le_of_ble_eq_true rfl) rfl rfl hc16.1 (CT.imp hc16.2 (fun z17 S17 V17 mc17 ms17 hc18 => ?_))
        refine X_istore_n dX12_readSum_53 (by decide) rfl ?_
        refine X_aload_n dX12_readSum_54 rfl ?_
        refine X_getfield (ci := 12) (k := 46) (v := vi (V17 x0 46)) dX12_readSum_55 rfl (by decide) kf_RX12_275 rfl hc18.1 ?_
        refine X_if_ne dX12_readSum_58 (tgt := 69) rfl (fun c19 => ?_) (fun c19 => ?_)
        · refine X_goto dX12_readSum_69 (tgt := 5) rfl ?_
          exact X_weak [false, false, true, true] (hc18.2.1 c19)
        · refine X_aload_n dX12_readSum_61 rfl ?_
          refine X_iload_n dX12_readSum_62 rfl ?_
          refine X_iload_n dX12_readSum_63 rfl ?_
          refine X_iload_n dX12_readSum_64 rfl ?_
          refine X_invV (ci := 12) (as := [vi 2, vi x1, vi z17]) (st := []) okX12_expression dX12_readSum_65 km_RX12_372 rfl rfl (Nat.le_of_ble_eq_true rfl) rfl rfl hc18.1 (CT.imp (hc18.2.2 c19) (fun z20 S20 V20 mc20 ms20 hc21 => ?_))
          refine X_istore_n dX12_readSum_68 (by decide) rfl ?_
          refine X_goto dX12_readSum_69 (tgt := 5) rfl ?_
          exact X_weak [false, false, true, true] hc21
    · refine X_aload_n dX12_readSum_21 rfl ?_
      refine X_bipush dX12_readSum_22 (by decide) (by decide) ?_
      refine X_invV (ci := 12) (as := [vi 45]) (st := []) okX12_isSign dX12_readSum_24 km_RX12_281 rfl rfl (Nat.le_of_ble_eq_true rfl) rfl rfl (hc3.2 c4).1 (CT.imp (hc3.2 c4).2 (fun z22 S22 V22 mc22 ms22 hc23 => ?_))
      refine X_if_eq dX12_readSum_27 (tgt := 72) rfl (fun c24 => ?_) (fun c24 => ?_)
      · refine X_iload_n dX12_readSum_72 rfl ?_
        exact X_ret (z := x1) dX12_readSum_73 rfl (fun hv => vok_h hv) (hc23.1 c24)
      · refine X_aload_n dX12_readSum_30 rfl ?_
        refine X_bipush dX12_readSum_31 (by decide) (by decide) ?_
        refine X_invV (ci := 12) (as := [vi 43]) (st := []) okX12_isSign dX12_readSum_33 km_RX12_281 rfl rfl (Nat.le_of_ble_eq_true rfl) rfl rfl (hc23.2 c24).1 (CT.imp (hc23.2 c24).2 (fun z25 S25 V25 mc25 ms25 hc26 => ?_))
        refine X_if_eq dX12_readSum_36 (tgt := 43) rfl (fun c27 => ?_) (fun c27 => ?_)
        · refine X_iconst dX12_readSum_43 (by decide) ?_
          refine X_istore_n dX12_readSum_44 (by decide) rfl ?_
          refine X_aload_n dX12_readSum_45 rfl ?_
          refine X_invV (ci := 12) (as := []) (st := []) okX12_next dX12_readSum_46 km_RX12_285 rfl rfl (Nat.le_of_ble_eq_true rfl) rfl rfl (hc26.1 c27).1 (CT.imp (hc26.1 c27).2 (fun z28 S28 V28 mc28 ms28 hc29 => ?_))
          refine X_aload_n dX12_readSum_49 rfl ?_
          refine X_invV (ci := 12) (as := []) (st := []) okX12_readTerm dX12_readSum_50 km_RX12_369 rfl rfl (Nat.le_of_ble_eq_true rfl) rfl rfl hc29.1 (CT.imp hc29.2 (fun z30 S30 V30 mc30 ms30 hc31 => ?_))
          refine X_istore_n dX12_readSum_53 (by decide) rfl ?_
          refine X_aload_n dX12_readSum_54 rfl ?_
          refine X_getfield (ci := 12) (k := 46) (v := vi (V30 x0 46)) dX12_readSum_55 rfl (by decide) kf_RX12_275 rfl hc31.1 ?_
          refine X_if_ne dX12_readSum_58 (tgt := 69) rfl (fun c32 => ?_) (fun c32 => ?_)
          · refine X_goto dX12_readSum_69 (tgt := 5) rfl ?_
            exact X_weak [false, false, true, true] (hc31.2.1 c32)
          · refine X_aload_n dX12_readSum_61 rfl ?_
            refine X_iload_n dX12_readSum_62 rfl ?_
            refine X_iload_n dX12_readSum_63 rfl ?_
            refine X_iload_n dX12_readSum_64 rfl ?_
            refine X_invV (ci := 12) (as := [vi 3, vi x1, vi z30]) (st := []) okX12_expression dX12_readSum_65 km_RX12_372 rfl rfl (Nat.le_of_ble_eq_true rfl) rfl rfl hc31.1 (CT.imp (hc31.2.2 c32) (fun z33 S33 V33 mc33 ms33 hc34 => ?_))
            refine X_istore_n dX12_readSum_68 (by decide) rfl ?_
            refine X_goto dX12_readSum_69 (tgt := 5) rfl ?_
            exact X_weak [false, false, true, true] hc34
        · refine X_iconst dX12_readSum_39 (by decide) ?_
          refine X_goto dX12_readSum_40 (tgt := 44) rfl ?_
          refine X_istore_n dX12_readSum_44 (by decide) rfl ?_
          refine X_aload_n dX12_readSum_45 rfl ?_
          refine X_invV (ci := 12) (as := []) (st := []) okX12_next dX12_readSum_46 km_RX12_285 rfl rfl (Nat.le_of_ble_eq_true rfl) rfl rfl (hc26.2 c27).1 (CT.imp (hc26.2 c27).2 (fun z35 S35 V35 mc35 ms35 hc36 => ?_))
          refine X_aload_n dX12_readSum_49 rfl ?_
          refine X_invV (ci := 12) (as := []) (st := []) okX12_readTerm dX12_readSum_50 km_RX12_369 rfl rfl (Nat.le_of_ble_eq_true rfl) rfl rfl hc36.1 (CT.imp hc36.2 (fun z37 S37 V37 mc37 ms37 hc38 => ?_))
          refine X_istore_n dX12_readSum_53 (by decide) rfl ?_
          refine X_aload_n dX12_readSum_54 rfl ?_
          refine X_getfield (ci := 12) (k := 46) (v := vi (V37 x0 46)) dX12_readSum_55 rfl (by decide) kf_RX12_275 rfl hc38.1 ?_
          refine X_if_ne dX12_readSum_58 (tgt := 69) rfl (fun c39 => ?_) (fun c39 => ?_)
          · refine X_goto dX12_readSum_69 (tgt := 5) rfl ?_
            exact X_weak [false, false, true, true] (hc38.2.1 c39)
          · refine X_aload_n dX12_readSum_61 rfl ?_
            refine X_iload_n dX12_readSum_62 rfl ?_
            refine X_iload_n dX12_readSum_63 rfl ?_
            refine X_iload_n dX12_readSum_64 rfl ?_
            refine X_invV (ci := 12) (as := [vi 2, vi x1, vi z37]) (st := []) okX12_expression dX12_readSum_65 km_RX12_372 rfl rfl (Nat.le_of_ble_eq_true rfl) rfl rfl hc38.1 (CT.imp (hc38.2.2 c39) (fun z40 S40 V40 mc40 ms40 hc41 => ?_))
            refine X_istore_n dX12_readSum_68 (by decide) rfl ?_
            refine X_goto dX12_readSum_69 (tgt := 5) rfl ?_
            exact X_weak [false, false, true, true] hc41
theorem qX12_readSum {l : Launch} {G : GT} {Q : Int → Sh → Mem → Prop} {d : Nat} {S : Sh} {V : Mem} {mc ms : Nat} {x0 : Int} (h : 0 ≤ x0 → XJ l G bX12_readSum Q d 0 [vr x0, vu, vu, vu] [] S V mc ms) : Ct l G bX12_readSum Q d mc ms [vr x0] S V := Ct.of okX12_readSum.1 trivial (Nat.le_of_ble_eq_true rfl) (fun hv => h (hv _ (List.mem_of_getElem? (i := 0) rfl)))
set_option maxRecDepth 10000 in
theorem vX12_readTerm_0 {l : Launch} {G : GT} {Q : Int → Sh → Mem → Prop} {d : Nat} {S : Sh} {V : Mem} {mc ms : Nat} {x0 : Int} (h : S.1 x0 = 13 ∧ CT l G bX12_readFactor d mc ms [vr x0] S V (fun z1 S1 V1 mc1 ms1 => XJ l G bX12_readTerm Q d 5 [vr x0, vi z1, vu, vu] [] S1 V1 mc1 ms1)) : XJ l G bX12_readTerm Q d 0 [vr x0, vu, vu, vu] [] S V mc ms := by
  refine X_aload_n dX12_readTerm_0 rfl ?_
  refine X_invV (ci := 12) (as := []) (st := []) okX12_readFactor dX12_readTerm_1 km_RX12_376 rfl rfl (Nat.le_of_ble_eq_true rfl) rfl rfl h.1 (CT.imp h.2 (fun z1 S1 V1 mc1 ms1 hc2 => ?_))
  refine X_istore_n dX12_readTerm_4 (by decide) rfl ?_
  exact hc2
set_option maxRecDepth 10000 in
theorem vX12_readTerm_5 {l : Launch} {G : GT} {Q : Int → Sh → Mem → Prop} {d : Nat} {S : Sh} {V : Mem} {mc ms : Nat} {x0 x1 : Int} (h : S.1 x0 = 13 ∧ ((V x0 46) ≠ 0 → Q x1 S V) ∧ (¬ ((V x0 46) ≠ 0) → CT l G bX12_isSign d mc ms [vr x0, vi 42] S V (fun z2 S2 V2 mc2 ms2 => (z2 ≠ 0 → S2.1 x0 = 13 ∧ CT l G bX12_isSign d mc2 ms2 [vr x0, vi 42] S2 V2 (fun z5 S5 V5 mc5 ms5 => (z5 = 0 → S5.1 x0 = 13 ∧ CT l G bX12_next d mc5 ms5 [vr x0] S5 V5 (fun z8 S8 V8 mc8 ms8 => S8.1 x0 = 13 ∧ CT l G bX12_readFactor d mc8 ms8 [vr x0] S8 V8 (fun z10 S10 V10 mc10 ms10 => S10.1 x0 = 13 ∧ ((V10 x0 46) ≠ 0 → XJ l G bX12_readTerm Q d 5 [vr x0, vi x1, vu, vu] [] S10 V10 mc10 ms10) ∧ (¬ ((V10 x0 46) ≠ 0) → CT l G bX12_expression d mc10 ms10 [vr x0, vi 5, vi x1, vi z10] S10 V10 (fun z13 S13 V13 mc13 ms13 => XJ l G bX12_readTerm Q d 5 [vr x0, vi z13, vu, vu] [] S13 V13 mc13 ms13))))) ∧ (¬ (z5 = 0) → S5.1 x0 = 13 ∧ CT l G bX12_next d mc5 ms5 [vr x0] S5 V5 (fun z15 S15 V15 mc15 ms15 => S15.1 x0 = 13 ∧ CT l G bX12_readFactor d mc15 ms15 [vr x0] S15 V15 (fun z17 S17 V17 mc17 ms17 => S17.1 x0 = 13 ∧ ((V17 x0 46) ≠ 0 → XJ l G bX12_readTerm Q d 5 [vr x0, vi x1, vu, vu] [] S17 V17 mc17 ms17) ∧ (¬ ((V17 x0 46) ≠ 0) → CT l G bX12_expression d mc17 ms17 [vr x0, vi 4, vi x1, vi z17] S17 V17 (fun z20 S20 V20 mc20 ms20 => XJ l G bX12_readTerm Q d 5 [vr x0, vi z20, vu, vu] [] S20 V20 mc20 ms20))))))) ∧ (¬ (z2 ≠ 0) → S2.1 x0 = 13 ∧ CT l G bX12_isSign d mc2 ms2 [vr x0, vi 47] S2 V2 (fun z22 S22 V22 mc22 ms22 => (z22 = 0 → Q x1 S22 V22) ∧ (¬ (z22 = 0) → S22.1 x0 = 13 ∧ CT l G bX12_isSign d mc22 ms22 [vr x0, vi 42] S22 V22 (fun z25 S25 V25 mc25 ms25 => (z25 = 0 → S25.1 x0 = 13 ∧ CT l G bX12_next d mc25 ms25 [vr x0] S25 V25 (fun z28 S28 V28 mc28 ms28 => S28.1 x0 = 13 ∧ CT l G bX12_readFactor d mc28 ms28 [vr x0] S28 V28 (fun z30 S30 V30 mc30 ms30 => S30.1 x0 = 13 ∧ ((V30 x0 46) ≠ 0 → XJ l G bX12_readTerm Q d 5 [vr x0, vi x1, vu, vu] [] S30 V30 mc30 ms30) ∧ (¬ ((V30 x0 46) ≠ 0) → CT l G bX12_expression d mc30 ms30 [vr x0, vi 5, vi x1, vi z30] S30 V30 (fun z33 S33 V33 mc33 ms33 => XJ l G bX12_readTerm Q d 5 [vr x0, vi z33, vu, vu] [] S33 V33 mc33 ms33))))) ∧ (¬ (z25 = 0) → S25.1 x0 = 13 ∧ CT l G bX12_next d mc25 ms25 [vr x0] S25 V25 (fun z35 S35 V35 mc35 ms35 => S35.1 x0 = 13 ∧ CT l G bX12_readFactor d mc35 ms35 [vr x0] S35 V35 (fun z37 S37 V37 mc37 ms37 => S37.1 x0 = 13 ∧ ((V37 x0 46) ≠ 0 → XJ l G bX12_readTerm Q d 5 [vr x0, vi x1, vu, vu] [] S37 V37 mc37 ms37) ∧ (¬ ((V37 x0 46) ≠ 0) → CT l G bX12_expression d mc37 ms37 [vr x0, vi 4, vi x1, vi z37] S37 V37 (fun z40 S40 V40 mc40 ms40 => XJ l G bX12_readTerm Q d 5 [vr x0, vi z40, vu, vu] [] S40 V40 mc40 ms40)))))))))))) : XJ l G bX12_readTerm Q d 5 [vr x0, vi x1, vu, vu] [] S V mc ms := by
  refine X_aload_n dX12_readTerm_5 rfl ?_
  refine X_getfield (ci := 12) (k := 46) (v := vi (V x0 46)) dX12_readTerm_6 rfl (by decide) kf_RX12_275 rfl h.1 ?_
  refine X_if_ne dX12_readTerm_9 (tgt := 72) rfl (fun c1 => ?_) (fun c1 => ?_)
  · refine X_iload_n dX12_readTerm_72 rfl ?_
    exact X_ret (z := x1) dX12_readTerm_73 rfl (fun hv => vok_h hv) (h.2.1 c1)
  · refine X_aload_n dX12_readTerm_12 rfl ?_
    refine X_bipush dX12_readTerm_13 (by decide) (by decide) ?_
    refine X_invV (ci := 12) (as := [vi 42]) (st := []) okX12_isSign dX12_readTerm_15 km_RX12_281 rfl rfl (Nat.le_of_ble_eq_true rfl) rfl rfl h.1 (CT.imp (h.2.2 c1) (fun z2 S2 V2 mc2 ms2 hc3 => ?_))
    refine X_if_ne dX12_readTerm_18 (tgt := 30) rfl (fun c4 => ?_) (fun c4 => ?_)
    · refine X_aload_n dX12_readTerm_30 rfl ?_
      refine X_bipush dX12_readTerm_31 (by decide) (by decide) ?_
      refine X_invV (ci := 12) (as := [vi 42]) (st := []) okX12_isSign dX12_readTerm_33 km_RX12_281 rfl rfl (Nat.le_of_ble_eq_true rfl) rfl rfl (hc3.1 c4).1 (CT.imp (hc3.1 c4).2 (fun z5 S5 V5 mc5 ms5 hc6 => ?_))
      refine X_if_eq dX12_readTerm_36 (tgt := 43) rfl (fun c7 => ?_) (fun c7 => ?_)
      · refine X_iconst dX12_readTerm_43 (by decide) ?_
        refine X_istore_n dX12_readTerm_44 (by decide) rfl ?_
        refine X_aload_n dX12_readTerm_45 rfl ?_
        refine X_invV (ci := 12) (as := []) (st := []) okX12_next dX12_readTerm_46 km_RX12_285 rfl rfl (Nat.le_of_ble_eq_true rfl) rfl rfl (hc6.1 c7).1 (CT.imp (hc6.1 c7).2 (fun z8 S8 V8 mc8 ms8 hc9 => ?_))
        refine X_aload_n dX12_readTerm_49 rfl ?_
        refine X_invV (ci := 12) (as := []) (st := []) okX12_readFactor dX12_readTerm_50 km_RX12_376 rfl rfl (Nat.le_of_ble_eq_true rfl) rfl rfl hc9.1 (CT.imp hc9.2 (fun z10 S10 V10 mc10 ms10 hc11 => ?_))
        refine X_istore_n dX12_readTerm_53 (by decide) rfl ?_
        refine X_aload_n dX12_readTerm_54 rfl ?_
        refine X_getfield (ci := 12) (k := 46) (v := vi (V10 x0 46)) dX12_readTerm_55 rfl (by decide) kf_RX12_275 rfl hc11.1 ?_
        refine X_if_ne dX12_readTerm_58 (tgt := 69) rfl (fun c12 => ?_) (fun c12 => ?_)
        · refine X_goto dX12_readTerm_69 (tgt := 5) rfl ?_
          exact X_weak [false, false, true, true] (hc11.2.1 c12)
        · refine X_aload_n dX12_readTerm_61 rfl ?_
          refine X_iload_n dX12_readTerm_62 rfl ?_
          refine X_iload_n dX12_readTerm_63 rfl ?_
          refine X_iload_n dX12_readTerm_64 rfl ?_
          refine X_invV (ci := 12) (as := [vi 5, vi x1, vi z10]) (st := []) okX12_expression dX12_readTerm_65 km_RX12_372 rfl rfl (Nat.le_of_ble_eq_true rfl) rfl rfl hc11.1 (CT.imp (hc11.2.2 c12) (fun z13 S13 V13 mc13 ms13 hc14 => ?_))
          refine X_istore_n dX12_readTerm_68 (by decide) rfl ?_
          refine X_goto dX12_readTerm_69 (tgt := 5) rfl ?_
          exact X_weak [false, false, true, true] hc14
      · refine X_iconst dX12_readTerm_39 (by decide) ?_
        refine X_goto dX12_readTerm_40 (tgt := 44) rfl ?_
        refine X_istore_n dX12_readTerm_44 (by decide) rfl ?_
        refine X_aload_n dX12_readTerm_45 rfl ?_
        refine X_invV (ci := 12) (as := []) (st := []) okX12_next dX12_readTerm_46 km_RX12_285 rfl rfl (Nat.le_of_ble_eq_true rfl) rfl rfl (hc6.2 c7).1 (CT.imp (hc6.2 c7).2 (fun z15 S15 V15 mc15 ms15 hc16 => ?_))
        refine X_aload_n dX12_readTerm_49 rfl ?_
        refine X_invV (ci := 12) (as := []) (st := []) okX12_readFactor dX12_readTerm_50 km_RX12_376 rfl rfl (Nat.le_of_ble_eq_true rfl) rfl rfl hc16.1 (CT.imp hc16.2 (fun z17 S17 V17 mc17 ms17 hc18 => ?_))
        refine X_istore_n dX12_readTerm_53 (by decide) rfl ?_
        refine X_aload_n dX12_readTerm_54 rfl ?_
        refine X_getfield (ci := 12) (k := 46) (v := vi (V17 x0 46)) dX12_readTerm_55 rfl (by decide) kf_RX12_275 rfl hc18.1 ?_
        refine X_if_ne dX12_readTerm_58 (tgt := 69) rfl (fun c19 => ?_) (fun c19 => ?_)
        · refine X_goto dX12_readTerm_69 (tgt := 5) rfl ?_
          exact X_weak [false, false, true, true] (hc18.2.1 c19)
        · refine X_aload_n dX12_readTerm_61 rfl ?_
          refine X_iload_n dX12_readTerm_62 rfl ?_
          refine X_iload_n dX12_readTerm_63 rfl ?_
          refine X_iload_n dX12_readTerm_64 rfl ?_
          refine X_invV (ci := 12) (as := [vi 4, vi x1, vi z17]) (st := []) okX12_expression dX12_readTerm_65 km_RX12_372 rfl rfl (Nat.le_of_ble_eq_true rfl) rfl rfl hc18.1 (CT.imp (hc18.2.2 c19) (fun z20 S20 V20 mc20 ms20 hc21 => ?_))
          refine X_istore_n dX12_readTerm_68 (by decide) rfl ?_
          refine X_goto dX12_readTerm_69 (tgt := 5) rfl ?_
          exact X_weak [false, false, true, true] hc21
    · refine X_aload_n dX12_readTerm_21 rfl ?_
      refine X_bipush dX12_readTerm_22 (by decide) (by decide) ?_
      refine X_invV (ci := 12) (as := [vi 47]) (st := []) okX12_isSign dX12_readTerm_24 km_RX12_281 rfl rfl (Nat.le_of_ble_eq_true rfl) rfl rfl (hc3.2 c4).1 (CT.imp (hc3.2 c4).2 (fun z22 S22 V22 mc22 ms22 hc23 => ?_))
      refine X_if_eq dX12_readTerm_27 (tgt := 72) rfl (fun c24 => ?_) (fun c24 => ?_)
      · refine X_iload_n dX12_readTerm_72 rfl ?_
        exact X_ret (z := x1) dX12_readTerm_73 rfl (fun hv => vok_h hv) (hc23.1 c24)
      · refine X_aload_n dX12_readTerm_30 rfl ?_
        refine X_bipush dX12_readTerm_31 (by decide) (by decide) ?_
        refine X_invV (ci := 12) (as := [vi 42]) (st := []) okX12_isSign dX12_readTerm_33 km_RX12_281 rfl rfl (Nat.le_of_ble_eq_true rfl) rfl rfl (hc23.2 c24).1 (CT.imp (hc23.2 c24).2 (fun z25 S25 V25 mc25 ms25 hc26 => ?_))
        refine X_if_eq dX12_readTerm_36 (tgt := 43) rfl (fun c27 => ?_) (fun c27 => ?_)
        · refine X_iconst dX12_readTerm_43 (by decide) ?_
          refine X_istore_n dX12_readTerm_44 (by decide) rfl ?_
          refine X_aload_n dX12_readTerm_45 rfl ?_
          refine X_invV (ci := 12) (as := []) (st := []) okX12_next dX12_readTerm_46 km_RX12_285 rfl rfl (Nat.le_of_ble_eq_true rfl) rfl rfl (hc26.1 c27).1 (CT.imp (hc26.1 c27).2 (fun z28 S28 V28 mc28 ms28 hc29 => ?_))
          refine X_aload_n dX12_readTerm_49 rfl ?_
          refine X_invV (ci := 12) (as := []) (st := []) okX12_readFactor dX12_readTerm_50 km_RX12_376 rfl rfl (Nat.le_of_ble_eq_true rfl) rfl rfl hc29.1 (CT.imp hc29.2 (fun z30 S30 V30 mc30 ms30 hc31 => ?_))
          refine X_istore_n dX12_readTerm_53 (by decide) rfl ?_
          refine X_aload_n dX12_readTerm_54 rfl ?_
          refine X_getfield (ci := 12) (k := 46) (v := vi (V30 x0 46)) dX12_readTerm_55 rfl (by decide) kf_RX12_275 rfl hc31.1 ?_
          refine X_if_ne dX12_readTerm_58 (tgt := 69) rfl (fun c32 => ?_) (fun c32 => ?_)
          · refine X_goto dX12_readTerm_69 (tgt := 5) rfl ?_
            exact X_weak [false, false, true, true] (hc31.2.1 c32)
          · refine X_aload_n dX12_readTerm_61 rfl ?_
            refine X_iload_n dX12_readTerm_62 rfl ?_
            refine X_iload_n dX12_readTerm_63 rfl ?_
            refine X_iload_n dX12_readTerm_64 rfl ?_
            refine X_invV (ci := 12) (as := [vi 5, vi x1, vi z30]) (st := []) okX12_expression dX12_readTerm_65 km_RX12_372 rfl rfl (Nat.le_of_ble_eq_true rfl) rfl rfl hc31.1 (CT.imp (hc31.2.2 c32) (fun z33 S33 V33 mc33 ms33 hc34 => ?_))
            refine X_istore_n dX12_readTerm_68 (by decide) rfl ?_
            refine X_goto dX12_readTerm_69 (tgt := 5) rfl ?_
            exact X_weak [false, false, true, true] hc34
        · refine X_iconst dX12_readTerm_39 (by decide) ?_
          refine X_goto dX12_readTerm_40 (tgt := 44) rfl ?_
          refine X_istore_n dX12_readTerm_44 (by decide) rfl ?_
          refine X_aload_n dX12_readTerm_45 rfl ?_
          refine X_invV (ci := 12) (as := []) (st := []) okX12_next dX12_readTerm_46 km_RX12_285 rfl rfl (Nat.le_of_ble_eq_true rfl) rfl rfl (hc26.2 c27).1 (CT.imp (hc26.2 c27).2 (fun z35 S35 V35 mc35 ms35 hc36 => ?_))
          refine X_aload_n dX12_readTerm_49 rfl ?_
          refine X_invV (ci := 12) (as := []) (st := []) okX12_readFactor dX12_readTerm_50 km_RX12_376 rfl rfl (Nat.le_of_ble_eq_true rfl) rfl rfl hc36.1 (CT.imp hc36.2 (fun z37 S37 V37 mc37 ms37 hc38 => ?_))
          refine X_istore_n dX12_readTerm_53 (by decide) rfl ?_
          refine X_aload_n dX12_readTerm_54 rfl ?_
          refine X_getfield (ci := 12) (k := 46) (v := vi (V37 x0 46)) dX12_readTerm_55 rfl (by decide) kf_RX12_275 rfl hc38.1 ?_
          refine X_if_ne dX12_readTerm_58 (tgt := 69) rfl (fun c39 => ?_) (fun c39 => ?_)
          · refine X_goto dX12_readTerm_69 (tgt := 5) rfl ?_
            exact X_weak [false, false, true, true] (hc38.2.1 c39)
          · refine X_aload_n dX12_readTerm_61 rfl ?_
            refine X_iload_n dX12_readTerm_62 rfl ?_
            refine X_iload_n dX12_readTerm_63 rfl ?_
            refine X_iload_n dX12_readTerm_64 rfl ?_
            refine X_invV (ci := 12) (as := [vi 4, vi x1, vi z37]) (st := []) okX12_expression dX12_readTerm_65 km_RX12_372 rfl rfl (Nat.le_of_ble_eq_true rfl) rfl rfl hc38.1 (CT.imp (hc38.2.2 c39) (fun z40 S40 V40 mc40 ms40 hc41 => ?_))
            refine X_istore_n dX12_readTerm_68 (by decide) rfl ?_
            refine X_goto dX12_readTerm_69 (tgt := 5) rfl ?_
            exact X_weak [false, false, true, true] hc41
theorem qX12_readTerm {l : Launch} {G : GT} {Q : Int → Sh → Mem → Prop} {d : Nat} {S : Sh} {V : Mem} {mc ms : Nat} {x0 : Int} (h : 0 ≤ x0 → XJ l G bX12_readTerm Q d 0 [vr x0, vu, vu, vu] [] S V mc ms) : Ct l G bX12_readTerm Q d mc ms [vr x0] S V := Ct.of okX12_readTerm.1 trivial (Nat.le_of_ble_eq_true rfl) (fun hv => h (hv _ (List.mem_of_getElem? (i := 0) rfl)))
set_option maxRecDepth 10000 in
theorem vX12_readFactor_0 {l : Launch} {G : GT} {Q : Int → Sh → Mem → Prop} {d : Nat} {S : Sh} {V : Mem} {mc ms : Nat} {x0 : Int} (h : S.1 x0 = 13 ∧ ((V x0 46) ≤ 0 → CT l G bX12_isSign d mc ms [vr x0, vi 45] S V (fun z2 S2 V2 mc2 ms2 => (z2 ≠ 0 → S2.1 x0 = 13 ∧ CT l G bX12_isSign d mc2 ms2 [vr x0, vi 45] S2 V2 (fun z5 S5 V5 mc5 ms5 => S5.1 x0 = 13 ∧ ((V5 x0 42) ≠ 12 → -2147483648 ≤ (V5 x0 42) + 1 ∧ (V5 x0 42) + 1 ≤ 2147483647 ∧ CT l G bX12_next d mc5 ms5 [vr x0] S5 (up V5 x0 42 ((V5 x0 42) + 1)) (fun z8 S8 V8 mc8 ms8 => (z5 = 0 → S8.1 x0 = 13 ∧ CT l G bX12_readSum d mc8 ms8 [vr x0] S8 V8 (fun z11 S11 V11 mc11 ms11 => (z5 ≠ 0 → XJ l G bX12_readFactor Q d 89 [vr x0, vi z5, vi z11] [] S11 V11 mc11 ms11) ∧ (¬ (z5 ≠ 0) → S11.1 x0 = 13 ∧ CT l G bX12_sign d mc11 ms11 [vr x0, vi 41] S11 V11 (fun z14 S14 V14 mc14 ms14 => XJ l G bX12_readFactor Q d 89 [vr x0, vi z5, vi z11] [] S14 V14 mc14 ms14)))) ∧ (¬ (z5 = 0) → S8.1 x0 = 13 ∧ CT l G bX12_readFactor d mc8 ms8 [vr x0] S8 V8 (fun z16 S16 V16 mc16 ms16 => (z5 ≠ 0 → XJ l G bX12_readFactor Q d 89 [vr x0, vi z5, vi z16] [] S16 V16 mc16 ms16) ∧ (¬ (z5 ≠ 0) → S16.1 x0 = 13 ∧ CT l G bX12_sign d mc16 ms16 [vr x0, vi 41] S16 V16 (fun z19 S19 V19 mc19 ms19 => XJ l G bX12_readFactor Q d 89 [vr x0, vi z5, vi z16] [] S19 V19 mc19 ms19)))))) ∧ (¬ ((V5 x0 42) ≠ 12) → CT l G bX12_fault d mc5 ms5 [vr x0, vi 5] S5 V5 (fun z21 S21 V21 mc21 ms21 => Q z21 S21 V21)))) ∧ (¬ (z2 ≠ 0) → S2.1 x0 = 13 ∧ CT l G bX12_isSign d mc2 ms2 [vr x0, vi 40] S2 V2 (fun z23 S23 V23 mc23 ms23 => (z23 = 0 → S23.1 x0 = 13 ∧ ((V23 x0 3) ≠ 3 → ((V23 x0 43) = 0 → ((V23 x0 44) = 0 → XJ l G bX12_readFactor Q d 203 [vr x0, vu, vu] [] S23 V23 mc23 ms23) ∧ (¬ ((V23 x0 44) = 0) → CT l G bX12_isWord d mc23 ms23 [vr x0, vr ((G.2.2.2.1 13 : Int) + 1)] S23 V23 (fun z29 S29 V29 mc29 ms29 => (z29 = 0 → XJ l G bX12_readFactor Q d 203 [vr x0, vu, vu] [] S29 V29 mc29 ms29) ∧ (¬ (z29 = 0) → S29.1 x0 = 13 ∧ CT l G bX12_expression d mc29 ms29 [vr x0, vi 7, vi 0, vi 0] S29 V29 (fun z32 S32 V32 mc32 ms32 => S32.1 x0 = 13 ∧ CT l G bX12_taken d mc32 ms32 [vr x0, vi z32] S32 V32 (fun z34 S34 V34 mc34 ms34 => Q z34 S34 V34)))))) ∧ (¬ ((V23 x0 43) = 0) → CT l G bX12_isWord d mc23 ms23 [vr x0, vr ((G.2.2.2.1 12 : Int) + 1)] S23 V23 (fun z36 S36 V36 mc36 ms36 => (z36 = 0 → S36.1 x0 = 13 ∧ ((V36 x0 44) = 0 → XJ l G bX12_readFactor Q d 203 [vr x0, vu, vu] [] S36 V36 mc36 ms36) ∧ (¬ ((V36 x0 44) = 0) → CT l G bX12_isWord d mc36 ms36 [vr x0, vr ((G.2.2.2.1 13 : Int) + 1)] S36 V36 (fun z40 S40 V40 mc40 ms40 => (z40 = 0 → XJ l G bX12_readFactor Q d 203 [vr x0, vu, vu] [] S40 V40 mc40 ms40) ∧ (¬ (z40 = 0) → S40.1 x0 = 13 ∧ CT l G bX12_expression d mc40 ms40 [vr x0, vi 7, vi 0, vi 0] S40 V40 (fun z43 S43 V43 mc43 ms43 => S43.1 x0 = 13 ∧ CT l G bX12_taken d mc43 ms43 [vr x0, vi z43] S43 V43 (fun z45 S45 V45 mc45 ms45 => Q z45 S45 V45)))))) ∧ (¬ (z36 = 0) → S36.1 x0 = 13 ∧ CT l G bX12_expression d mc36 ms36 [vr x0, vi 6, vi 0, vi 0] S36 V36 (fun z47 S47 V47 mc47 ms47 => S47.1 x0 = 13 ∧ CT l G bX12_taken d mc47 ms47 [vr x0, vi z47] S47 V47 (fun z49 S49 V49 mc49 ms49 => Q z49 S49 V49)))))) ∧ (¬ ((V23 x0 3) ≠ 3) → CT l G bX12_expression d mc23 ms23 [vr x0, vi 0, vi (V23 x0 6), vi 0] S23 V23 (fun z51 S51 V51 mc51 ms51 => S51.1 x0 = 13 ∧ CT l G bX12_taken d mc51 ms51 [vr x0, vi z51] S51 V51 (fun z53 S53 V53 mc53 ms53 => Q z53 S53 V53)))) ∧ (¬ (z23 = 0) → S23.1 x0 = 13 ∧ CT l G bX12_isSign d mc23 ms23 [vr x0, vi 45] S23 V23 (fun z55 S55 V55 mc55 ms55 => S55.1 x0 = 13 ∧ ((V55 x0 42) ≠ 12 → -2147483648 ≤ (V55 x0 42) + 1 ∧ (V55 x0 42) + 1 ≤ 2147483647 ∧ CT l G bX12_next d mc55 ms55 [vr x0] S55 (up V55 x0 42 ((V55 x0 42) + 1)) (fun z58 S58 V58 mc58 ms58 => (z55 = 0 → S58.1 x0 = 13 ∧ CT l G bX12_readSum d mc58 ms58 [vr x0] S58 V58 (fun z61 S61 V61 mc61 ms61 => (z55 ≠ 0 → XJ l G bX12_readFactor Q d 89 [vr x0, vi z55, vi z61] [] S61 V61 mc61 ms61) ∧ (¬ (z55 ≠ 0) → S61.1 x0 = 13 ∧ CT l G bX12_sign d mc61 ms61 [vr x0, vi 41] S61 V61 (fun z64 S64 V64 mc64 ms64 => XJ l G bX12_readFactor Q d 89 [vr x0, vi z55, vi z61] [] S64 V64 mc64 ms64)))) ∧ (¬ (z55 = 0) → S58.1 x0 = 13 ∧ CT l G bX12_readFactor d mc58 ms58 [vr x0] S58 V58 (fun z66 S66 V66 mc66 ms66 => (z55 ≠ 0 → XJ l G bX12_readFactor Q d 89 [vr x0, vi z55, vi z66] [] S66 V66 mc66 ms66) ∧ (¬ (z55 ≠ 0) → S66.1 x0 = 13 ∧ CT l G bX12_sign d mc66 ms66 [vr x0, vi 41] S66 V66 (fun z69 S69 V69 mc69 ms69 => XJ l G bX12_readFactor Q d 89 [vr x0, vi z55, vi z66] [] S69 V69 mc69 ms69)))))) ∧ (¬ ((V55 x0 42) ≠ 12) → CT l G bX12_fault d mc55 ms55 [vr x0, vi 5] S55 V55 (fun z71 S71 V71 mc71 ms71 => Q z71 S71 V71)))))))) ∧ (¬ ((V x0 46) ≤ 0) → Q (-1) S V)) : XJ l G bX12_readFactor Q d 0 [vr x0, vu, vu] [] S V mc ms := by
  refine X_aload_n dX12_readFactor_0 rfl ?_
  refine X_getfield (ci := 12) (k := 46) (v := vi (V x0 46)) dX12_readFactor_1 rfl (by decide) kf_RX12_275 rfl h.1 ?_
  refine X_if_le dX12_readFactor_4 (tgt := 9) rfl (fun c1 => ?_) (fun c1 => ?_)
  · refine X_aload_n dX12_readFactor_9 rfl ?_
    refine X_bipush dX12_readFactor_10 (by decide) (by decide) ?_
    refine X_invV (ci := 12) (as := [vi 45]) (st := []) okX12_isSign dX12_readFactor_12 km_RX12_281 rfl rfl (Nat.le_of_ble_eq_true rfl) rfl rfl h.1 (CT.imp (h.2.1 c1) (fun z2 S2 V2 mc2 ms2 hc3 => ?_))
    refine X_if_ne dX12_readFactor_15 (tgt := 27) rfl (fun c4 => ?_) (fun c4 => ?_)
    · refine X_aload_n dX12_readFactor_27 rfl ?_
      refine X_bipush dX12_readFactor_28 (by decide) (by decide) ?_
      refine X_invV (ci := 12) (as := [vi 45]) (st := []) okX12_isSign dX12_readFactor_30 km_RX12_281 rfl rfl (Nat.le_of_ble_eq_true rfl) rfl rfl (hc3.1 c4).1 (CT.imp (hc3.1 c4).2 (fun z5 S5 V5 mc5 ms5 hc6 => ?_))
      refine X_istore_n dX12_readFactor_33 (by decide) rfl ?_
      refine X_aload_n dX12_readFactor_34 rfl ?_
      refine X_getfield (ci := 12) (k := 42) (v := vi (V5 x0 42)) dX12_readFactor_35 rfl (by decide) kf_RX12_363 rfl hc6.1 ?_
      refine X_bipush dX12_readFactor_38 (by decide) (by decide) ?_
      refine X_icmp_ne dX12_readFactor_40 (tgt := 49) rfl (fun c7 => ?_) (fun c7 => ?_)
      · refine X_aload_n dX12_readFactor_49 rfl ?_
        refine X_dup dX12_readFactor_50 (rv_cat _) ?_
        refine X_getfield (ci := 12) (k := 42) (v := vi (V5 x0 42)) dX12_readFactor_51 rfl (by decide) kf_RX12_363 rfl hc6.1 ?_
        refine X_iconst dX12_readFactor_54 (by decide) ?_
        refine X_iaddN dX12_readFactor_55 (hc6.2.1 c7).1 (hc6.2.1 c7).2.1 ?_
        refine X_putfield (ci := 12) (k := 42) (z := ((V5 x0 42) + 1)) dX12_readFactor_56 rfl (by decide) kf_RX12_363 (Or.inl rfl) (Or.inl rfl) rfl (fun hv => hv) hc6.1 ?_
        refine X_aload_n dX12_readFactor_59 rfl ?_
        refine X_invV (ci := 12) (as := []) (st := []) okX12_next dX12_readFactor_60 km_RX12_285 rfl rfl (Nat.le_of_ble_eq_true rfl) rfl rfl hc6.1 (CT.imp (hc6.2.1 c7).2.2 (fun z8 S8 V8 mc8 ms8 hc9 => ?_))
        refine X_iload_n dX12_readFactor_63 rfl ?_
        refine X_if_eq dX12_readFactor_64 (tgt := 74) rfl (fun c10 => ?_) (fun c10 => ?_)
        · refine X_aload_n dX12_readFactor_74 rfl ?_
          refine X_invV (ci := 12) (as := []) (st := []) okX12_readSum dX12_readFactor_75 km_RX12_366 rfl rfl (Nat.le_of_ble_eq_true rfl) rfl rfl (hc9.1 c10).1 (CT.imp (hc9.1 c10).2 (fun z11 S11 V11 mc11 ms11 hc12 => ?_))
          refine X_istore_n dX12_readFactor_78 (by decide) rfl ?_
          refine X_iload_n dX12_readFactor_79 rfl ?_
          refine X_if_ne dX12_readFactor_80 (tgt := 89) rfl (fun c13 => ?_) (fun c13 => ?_)
          · exact (hc12.1 c13)
          · refine X_aload_n dX12_readFactor_83 rfl ?_
            refine X_bipush dX12_readFactor_84 (by decide) (by decide) ?_
            refine X_invV (ci := 12) (as := [vi 41]) (st := []) okX12_sign dX12_readFactor_86 km_RX12_318 rfl rfl (Nat.le_of_ble_eq_true rfl) rfl rfl (hc12.2 c13).1 (CT.imp (hc12.2 c13).2 (fun z14 S14 V14 mc14 ms14 hc15 => ?_))
            exact hc15
        · refine X_aload_n dX12_readFactor_67 rfl ?_
          refine X_invV (ci := 12) (as := []) (st := []) okX12_readFactor dX12_readFactor_68 km_RX12_376 rfl rfl (Nat.le_of_ble_eq_true rfl) rfl rfl (hc9.2 c10).1 (CT.imp (hc9.2 c10).2 (fun z16 S16 V16 mc16 ms16 hc17 => ?_))
          refine X_goto dX12_readFactor_71 (tgt := 78) rfl ?_
          refine X_istore_n dX12_readFactor_78 (by decide) rfl ?_
          refine X_iload_n dX12_readFactor_79 rfl ?_
          refine X_if_ne dX12_readFactor_80 (tgt := 89) rfl (fun c18 => ?_) (fun c18 => ?_)
          · exact (hc17.1 c18)
          · refine X_aload_n dX12_readFactor_83 rfl ?_
            refine X_bipush dX12_readFactor_84 (by decide) (by decide) ?_
            refine X_invV (ci := 12) (as := [vi 41]) (st := []) okX12_sign dX12_readFactor_86 km_RX12_318 rfl rfl (Nat.le_of_ble_eq_true rfl) rfl rfl (hc17.2 c18).1 (CT.imp (hc17.2 c18).2 (fun z19 S19 V19 mc19 ms19 hc20 => ?_))
            exact hc20
      · refine X_aload_n dX12_readFactor_43 rfl ?_
        refine X_iconst dX12_readFactor_44 (by decide) ?_
        refine X_invV (ci := 12) (as := [vi 5]) (st := []) okX12_fault dX12_readFactor_45 km_RX12_288 rfl rfl (Nat.le_of_ble_eq_true rfl) rfl rfl hc6.1 (CT.imp (hc6.2.2 c7) (fun z21 S21 V21 mc21 ms21 hc22 => ?_))
        exact X_ret (z := z21) dX12_readFactor_48 rfl (fun hv => vok_h hv) hc22
    · refine X_aload_n dX12_readFactor_18 rfl ?_
      refine X_bipush dX12_readFactor_19 (by decide) (by decide) ?_
      refine X_invV (ci := 12) (as := [vi 40]) (st := []) okX12_isSign dX12_readFactor_21 km_RX12_281 rfl rfl (Nat.le_of_ble_eq_true rfl) rfl rfl (hc3.2 c4).1 (CT.imp (hc3.2 c4).2 (fun z23 S23 V23 mc23 ms23 hc24 => ?_))
      refine X_if_eq dX12_readFactor_24 (tgt := 122) rfl (fun c25 => ?_) (fun c25 => ?_)
      · refine X_aload_n dX12_readFactor_122 rfl ?_
        refine X_getfield (ci := 12) (k := 3) (v := vi (V23 x0 3)) dX12_readFactor_123 rfl (by decide) kf_RX12_205 rfl (hc24.1 c25).1 ?_
        refine X_iconst dX12_readFactor_126 (by decide) ?_
        refine X_icmp_ne dX12_readFactor_127 (tgt := 145) rfl (fun c26 => ?_) (fun c26 => ?_)
        · refine X_aload_n dX12_readFactor_145 rfl ?_
          refine X_getfield (ci := 12) (k := 43) (v := vi (V23 x0 43)) dX12_readFactor_146 rfl (by decide) kf_RX12_353 rfl (hc24.1 c25).1 ?_
          refine X_if_eq dX12_readFactor_149 (tgt := 174) rfl (fun c27 => ?_) (fun c27 => ?_)
          · refine X_aload_n dX12_readFactor_174 rfl ?_
            refine X_getfield (ci := 12) (k := 44) (v := vi (V23 x0 44)) dX12_readFactor_175 rfl (by decide) kf_RX12_357 rfl (hc24.1 c25).1 ?_
            refine X_if_eq dX12_readFactor_178 (tgt := 203) rfl (fun c28 => ?_) (fun c28 => ?_)
            · exact ((((hc24.1 c25).2.1 c26).1 c27).1 c28)
            · refine X_aload_n dX12_readFactor_181 rfl ?_
              refine X_ldcS (i := 13) dX12_readFactor_182 (by decide) ⟨rfl, rfl⟩ ?_
              refine X_invV (ci := 12) (as := [vr ((G.2.2.2.1 13 : Int) + 1)]) (st := []) okX12_isWord dX12_readFactor_184 km_RX12_235 rfl rfl (Nat.le_of_ble_eq_true rfl) rfl rfl (hc24.1 c25).1 (CT.imp ((((hc24.1 c25).2.1 c26).1 c27).2 c28) (fun z29 S29 V29 mc29 ms29 hc30 => ?_))
              refine X_if_eq dX12_readFactor_187 (tgt := 203) rfl (fun c31 => ?_) (fun c31 => ?_)
              · exact (hc30.1 c31)
              · refine X_aload_n dX12_readFactor_190 rfl ?_
                refine X_aload_n dX12_readFactor_191 rfl ?_
                refine X_bipush dX12_readFactor_192 (by decide) (by decide) ?_
                refine X_iconst dX12_readFactor_194 (by decide) ?_
                refine X_iconst dX12_readFactor_195 (by decide) ?_
                refine X_invV (ci := 12) (as := [vi 7, vi 0, vi 0]) (st := [vr x0]) okX12_expression dX12_readFactor_196 km_RX12_372 rfl rfl (Nat.le_of_ble_eq_true rfl) rfl rfl (hc30.2 c31).1 (CT.imp (hc30.2 c31).2 (fun z32 S32 V32 mc32 ms32 hc33 => ?_))
                refine X_invV (ci := 12) (as := [vi z32]) (st := []) okX12_taken dX12_readFactor_199 km_RX12_379 rfl rfl (Nat.le_of_ble_eq_true rfl) rfl rfl hc33.1 (CT.imp hc33.2 (fun z34 S34 V34 mc34 ms34 hc35 => ?_))
                exact X_ret (z := z34) dX12_readFactor_202 rfl (fun hv => vok_h hv) hc35
          · refine X_aload_n dX12_readFactor_152 rfl ?_
            refine X_ldcS (i := 12) dX12_readFactor_153 (by decide) ⟨rfl, rfl⟩ ?_
            refine X_invV (ci := 12) (as := [vr ((G.2.2.2.1 12 : Int) + 1)]) (st := []) okX12_isWord dX12_readFactor_155 km_RX12_235 rfl rfl (Nat.le_of_ble_eq_true rfl) rfl rfl (hc24.1 c25).1 (CT.imp (((hc24.1 c25).2.1 c26).2 c27) (fun z36 S36 V36 mc36 ms36 hc37 => ?_))
            refine X_if_eq dX12_readFactor_158 (tgt := 174) rfl (fun c38 => ?_) (fun c38 => ?_)
            · refine X_aload_n dX12_readFactor_174 rfl ?_
              refine X_getfield (ci := 12) (k := 44) (v := vi (V36 x0 44)) dX12_readFactor_175 rfl (by decide) kf_RX12_357 rfl (hc37.1 c38).1 ?_
              refine X_if_eq dX12_readFactor_178 (tgt := 203) rfl (fun c39 => ?_) (fun c39 => ?_)
              · exact ((hc37.1 c38).2.1 c39)
              · refine X_aload_n dX12_readFactor_181 rfl ?_
                refine X_ldcS (i := 13) dX12_readFactor_182 (by decide) ⟨rfl, rfl⟩ ?_
                refine X_invV (ci := 12) (as := [vr ((G.2.2.2.1 13 : Int) + 1)]) (st := []) okX12_isWord dX12_readFactor_184 km_RX12_235 rfl rfl (Nat.le_of_ble_eq_true rfl) rfl rfl (hc37.1 c38).1 (CT.imp ((hc37.1 c38).2.2 c39) (fun z40 S40 V40 mc40 ms40 hc41 => ?_))
                refine X_if_eq dX12_readFactor_187 (tgt := 203) rfl (fun c42 => ?_) (fun c42 => ?_)
                · exact (hc41.1 c42)
                · refine X_aload_n dX12_readFactor_190 rfl ?_
                  refine X_aload_n dX12_readFactor_191 rfl ?_
                  refine X_bipush dX12_readFactor_192 (by decide) (by decide) ?_
                  refine X_iconst dX12_readFactor_194 (by decide) ?_
                  refine X_iconst dX12_readFactor_195 (by decide) ?_
                  refine X_invV (ci := 12) (as := [vi 7, vi 0, vi 0]) (st := [vr x0]) okX12_expression dX12_readFactor_196 km_RX12_372 rfl rfl (Nat.le_of_ble_eq_true rfl) rfl rfl (hc41.2 c42).1 (CT.imp (hc41.2 c42).2 (fun z43 S43 V43 mc43 ms43 hc44 => ?_))
                  refine X_invV (ci := 12) (as := [vi z43]) (st := []) okX12_taken dX12_readFactor_199 km_RX12_379 rfl rfl (Nat.le_of_ble_eq_true rfl) rfl rfl hc44.1 (CT.imp hc44.2 (fun z45 S45 V45 mc45 ms45 hc46 => ?_))
                  exact X_ret (z := z45) dX12_readFactor_202 rfl (fun hv => vok_h hv) hc46
            · refine X_aload_n dX12_readFactor_161 rfl ?_
              refine X_aload_n dX12_readFactor_162 rfl ?_
              refine X_bipush dX12_readFactor_163 (by decide) (by decide) ?_
              refine X_iconst dX12_readFactor_165 (by decide) ?_
              refine X_iconst dX12_readFactor_166 (by decide) ?_
              refine X_invV (ci := 12) (as := [vi 6, vi 0, vi 0]) (st := [vr x0]) okX12_expression dX12_readFactor_167 km_RX12_372 rfl rfl (Nat.le_of_ble_eq_true rfl) rfl rfl (hc37.2 c38).1 (CT.imp (hc37.2 c38).2 (fun z47 S47 V47 mc47 ms47 hc48 => ?_))
              refine X_invV (ci := 12) (as := [vi z47]) (st := []) okX12_taken dX12_readFactor_170 km_RX12_379 rfl rfl (Nat.le_of_ble_eq_true rfl) rfl rfl hc48.1 (CT.imp hc48.2 (fun z49 S49 V49 mc49 ms49 hc50 => ?_))
              exact X_ret (z := z49) dX12_readFactor_173 rfl (fun hv => vok_h hv) hc50
        · refine X_aload_n dX12_readFactor_130 rfl ?_
          refine X_aload_n dX12_readFactor_131 rfl ?_
          refine X_iconst dX12_readFactor_132 (by decide) ?_
          refine X_aload_n dX12_readFactor_133 rfl ?_
          refine X_getfield (ci := 12) (k := 6) (v := vi (V23 x0 6)) dX12_readFactor_134 rfl (by decide) kf_RX12_215 rfl (hc24.1 c25).1 ?_
          refine X_iconst dX12_readFactor_137 (by decide) ?_
          refine X_invV (ci := 12) (as := [vi 0, vi (V23 x0 6), vi 0]) (st := [vr x0]) okX12_expression dX12_readFactor_138 km_RX12_372 rfl rfl (Nat.le_of_ble_eq_true rfl) rfl rfl (hc24.1 c25).1 (CT.imp ((hc24.1 c25).2.2 c26) (fun z51 S51 V51 mc51 ms51 hc52 => ?_))
          refine X_invV (ci := 12) (as := [vi z51]) (st := []) okX12_taken dX12_readFactor_141 km_RX12_379 rfl rfl (Nat.le_of_ble_eq_true rfl) rfl rfl hc52.1 (CT.imp hc52.2 (fun z53 S53 V53 mc53 ms53 hc54 => ?_))
          exact X_ret (z := z53) dX12_readFactor_144 rfl (fun hv => vok_h hv) hc54
      · refine X_aload_n dX12_readFactor_27 rfl ?_
        refine X_bipush dX12_readFactor_28 (by decide) (by decide) ?_
        refine X_invV (ci := 12) (as := [vi 45]) (st := []) okX12_isSign dX12_readFactor_30 km_RX12_281 rfl rfl (Nat.le_of_ble_eq_true rfl) rfl rfl (hc24.2 c25).1 (CT.imp (hc24.2 c25).2 (fun z55 S55 V55 mc55 ms55 hc56 => ?_))
        refine X_istore_n dX12_readFactor_33 (by decide) rfl ?_
        refine X_aload_n dX12_readFactor_34 rfl ?_
        refine X_getfield (ci := 12) (k := 42) (v := vi (V55 x0 42)) dX12_readFactor_35 rfl (by decide) kf_RX12_363 rfl hc56.1 ?_
        refine X_bipush dX12_readFactor_38 (by decide) (by decide) ?_
        refine X_icmp_ne dX12_readFactor_40 (tgt := 49) rfl (fun c57 => ?_) (fun c57 => ?_)
        · refine X_aload_n dX12_readFactor_49 rfl ?_
          refine X_dup dX12_readFactor_50 (rv_cat _) ?_
          refine X_getfield (ci := 12) (k := 42) (v := vi (V55 x0 42)) dX12_readFactor_51 rfl (by decide) kf_RX12_363 rfl hc56.1 ?_
          refine X_iconst dX12_readFactor_54 (by decide) ?_
          refine X_iaddN dX12_readFactor_55 (hc56.2.1 c57).1 (hc56.2.1 c57).2.1 ?_
          refine X_putfield (ci := 12) (k := 42) (z := ((V55 x0 42) + 1)) dX12_readFactor_56 rfl (by decide) kf_RX12_363 (Or.inl rfl) (Or.inl rfl) rfl (fun hv => hv) hc56.1 ?_
          refine X_aload_n dX12_readFactor_59 rfl ?_
          refine X_invV (ci := 12) (as := []) (st := []) okX12_next dX12_readFactor_60 km_RX12_285 rfl rfl (Nat.le_of_ble_eq_true rfl) rfl rfl hc56.1 (CT.imp (hc56.2.1 c57).2.2 (fun z58 S58 V58 mc58 ms58 hc59 => ?_))
          refine X_iload_n dX12_readFactor_63 rfl ?_
          refine X_if_eq dX12_readFactor_64 (tgt := 74) rfl (fun c60 => ?_) (fun c60 => ?_)
          · refine X_aload_n dX12_readFactor_74 rfl ?_
            refine X_invV (ci := 12) (as := []) (st := []) okX12_readSum dX12_readFactor_75 km_RX12_366 rfl rfl (Nat.le_of_ble_eq_true rfl) rfl rfl (hc59.1 c60).1 (CT.imp (hc59.1 c60).2 (fun z61 S61 V61 mc61 ms61 hc62 => ?_))
            refine X_istore_n dX12_readFactor_78 (by decide) rfl ?_
            refine X_iload_n dX12_readFactor_79 rfl ?_
            refine X_if_ne dX12_readFactor_80 (tgt := 89) rfl (fun c63 => ?_) (fun c63 => ?_)
            · exact (hc62.1 c63)
            · refine X_aload_n dX12_readFactor_83 rfl ?_
              refine X_bipush dX12_readFactor_84 (by decide) (by decide) ?_
              refine X_invV (ci := 12) (as := [vi 41]) (st := []) okX12_sign dX12_readFactor_86 km_RX12_318 rfl rfl (Nat.le_of_ble_eq_true rfl) rfl rfl (hc62.2 c63).1 (CT.imp (hc62.2 c63).2 (fun z64 S64 V64 mc64 ms64 hc65 => ?_))
              exact hc65
          · refine X_aload_n dX12_readFactor_67 rfl ?_
            refine X_invV (ci := 12) (as := []) (st := []) okX12_readFactor dX12_readFactor_68 km_RX12_376 rfl rfl (Nat.le_of_ble_eq_true rfl) rfl rfl (hc59.2 c60).1 (CT.imp (hc59.2 c60).2 (fun z66 S66 V66 mc66 ms66 hc67 => ?_))
            refine X_goto dX12_readFactor_71 (tgt := 78) rfl ?_
            refine X_istore_n dX12_readFactor_78 (by decide) rfl ?_
            refine X_iload_n dX12_readFactor_79 rfl ?_
            refine X_if_ne dX12_readFactor_80 (tgt := 89) rfl (fun c68 => ?_) (fun c68 => ?_)
            · exact (hc67.1 c68)
            · refine X_aload_n dX12_readFactor_83 rfl ?_
              refine X_bipush dX12_readFactor_84 (by decide) (by decide) ?_
              refine X_invV (ci := 12) (as := [vi 41]) (st := []) okX12_sign dX12_readFactor_86 km_RX12_318 rfl rfl (Nat.le_of_ble_eq_true rfl) rfl rfl (hc67.2 c68).1 (CT.imp (hc67.2 c68).2 (fun z69 S69 V69 mc69 ms69 hc70 => ?_))
              exact hc70
        · refine X_aload_n dX12_readFactor_43 rfl ?_
          refine X_iconst dX12_readFactor_44 (by decide) ?_
          refine X_invV (ci := 12) (as := [vi 5]) (st := []) okX12_fault dX12_readFactor_45 km_RX12_288 rfl rfl (Nat.le_of_ble_eq_true rfl) rfl rfl hc56.1 (CT.imp (hc56.2.2 c57) (fun z71 S71 V71 mc71 ms71 hc72 => ?_))
          exact X_ret (z := z71) dX12_readFactor_48 rfl (fun hv => vok_h hv) hc72
  · refine X_iconst dX12_readFactor_7 (by decide) ?_
    exact X_ret (z := (-1)) dX12_readFactor_8 rfl (fun hv => vok_h hv) (h.2.2 c1)
set_option maxRecDepth 10000 in
theorem vX12_readFactor_89 {l : Launch} {G : GT} {Q : Int → Sh → Mem → Prop} {d : Nat} {S : Sh} {V : Mem} {mc ms : Nat} {x0 x1 x2 : Int} (h : S.1 x0 = 13 ∧ -2147483648 ≤ (V x0 42) - 1 ∧ (V x0 42) - 1 ≤ 2147483647 ∧ (0 < (V x0 46) → Q x2 S (up V x0 42 ((V x0 42) - 1))) ∧ (¬ (0 < (V x0 46)) → (x1 ≠ 0 → CT l G bX12_expression d mc ms [vr x0, vi 1, vi x2, vi 0] S (up V x0 42 ((V x0 42) - 1)) (fun z3 S3 V3 mc3 ms3 => Q z3 S3 V3)) ∧ (¬ (x1 ≠ 0) → Q x2 S (up V x0 42 ((V x0 42) - 1))))) : XJ l G bX12_readFactor Q d 89 [vr x0, vi x1, vi x2] [] S V mc ms := by
  refine X_aload_n dX12_readFactor_89 rfl ?_
  refine X_dup dX12_readFactor_90 (rv_cat _) ?_
  refine X_getfield (ci := 12) (k := 42) (v := vi (V x0 42)) dX12_readFactor_91 rfl (by decide) kf_RX12_363 rfl h.1 ?_
  refine X_iconst dX12_readFactor_94 (by decide) ?_
  refine X_isubN dX12_readFactor_95 h.2.1 h.2.2.1 ?_
  refine X_putfield (ci := 12) (k := 42) (z := ((V x0 42) - 1)) dX12_readFactor_96 rfl (by decide) kf_RX12_363 (Or.inl rfl) (Or.inl rfl) rfl (fun hv => hv) h.1 ?_
  refine X_aload_n dX12_readFactor_99 rfl ?_
  refine X_getfield (ci := 12) (k := 46) (v := vi (V x0 46)) dX12_readFactor_100 rfl (by decide) kf_RX12_275 (congrArg vi (up_ne (Or.inr (by decide)))) h.1 ?_
  refine X_if_gt dX12_readFactor_103 (tgt := 110) rfl (fun c1 => ?_) (fun c1 => ?_)
  · refine X_iload_n dX12_readFactor_110 rfl ?_
    refine X_goto dX12_readFactor_111 (tgt := 121) rfl ?_
    exact X_ret (z := x2) dX12_readFactor_121 rfl (fun hv => vok_h hv) (h.2.2.2.1 c1)
  · refine X_iload_n dX12_readFactor_106 rfl ?_
    refine X_if_ne dX12_readFactor_107 (tgt := 114) rfl (fun c2 => ?_) (fun c2 => ?_)
    · refine X_aload_n dX12_readFactor_114 rfl ?_
      refine X_iconst dX12_readFactor_115 (by decide) ?_
      refine X_iload_n dX12_readFactor_116 rfl ?_
      refine X_iconst dX12_readFactor_117 (by decide) ?_
      refine X_invV (ci := 12) (as := [vi 1, vi x2, vi 0]) (st := []) okX12_expression dX12_readFactor_118 km_RX12_372 rfl rfl (Nat.le_of_ble_eq_true rfl) rfl rfl h.1 (CT.imp ((h.2.2.2.2 c1).1 c2) (fun z3 S3 V3 mc3 ms3 hc4 => ?_))
      exact X_ret (z := z3) dX12_readFactor_121 rfl (fun hv => vok_h hv) hc4
    · refine X_iload_n dX12_readFactor_110 rfl ?_
      refine X_goto dX12_readFactor_111 (tgt := 121) rfl ?_
      exact X_ret (z := x2) dX12_readFactor_121 rfl (fun hv => vok_h hv) ((h.2.2.2.2 c1).2 c2)
set_option maxRecDepth 10000 in
theorem vX12_readFactor_203 {l : Launch} {G : GT} {Q : Int → Sh → Mem → Prop} {d : Nat} {S : Sh} {V : Mem} {mc ms : Nat} {x0 : Int} (h : S.1 x0 = 13 ∧ ((V x0 45) = 0 → CT l G bX12_isWord d mc ms [vr x0, vr ((G.2.2.2.1 14 : Int) + 1)] S V (fun z2 S2 V2 mc2 ms2 => (z2 = 0 → S2.1 x0 = 13 ∧ CT l G bX12_readReference d mc2 ms2 [vr x0] S2 V2 (fun z5 S5 V5 mc5 ms5 => Q z5 S5 V5)) ∧ (¬ (z2 = 0) → S2.1 x0 = 13 ∧ CT l G bX12_expression d mc2 ms2 [vr x0, vi 9, vi 0, vi 0] S2 V2 (fun z7 S7 V7 mc7 ms7 => S7.1 x0 = 13 ∧ CT l G bX12_taken d mc7 ms7 [vr x0, vi z7] S7 V7 (fun z9 S9 V9 mc9 ms9 => Q z9 S9 V9))))) ∧ (¬ ((V x0 45) = 0) → CT l G bX12_isWord d mc ms [vr x0, vr ((G.2.2.2.1 15 : Int) + 1)] S V (fun z11 S11 V11 mc11 ms11 => (z11 = 0 → S11.1 x0 = 13 ∧ CT l G bX12_isWord d mc11 ms11 [vr x0, vr ((G.2.2.2.1 14 : Int) + 1)] S11 V11 (fun z14 S14 V14 mc14 ms14 => (z14 = 0 → S14.1 x0 = 13 ∧ CT l G bX12_readReference d mc14 ms14 [vr x0] S14 V14 (fun z17 S17 V17 mc17 ms17 => Q z17 S17 V17)) ∧ (¬ (z14 = 0) → S14.1 x0 = 13 ∧ CT l G bX12_expression d mc14 ms14 [vr x0, vi 9, vi 0, vi 0] S14 V14 (fun z19 S19 V19 mc19 ms19 => S19.1 x0 = 13 ∧ CT l G bX12_taken d mc19 ms19 [vr x0, vi z19] S19 V19 (fun z21 S21 V21 mc21 ms21 => Q z21 S21 V21))))) ∧ (¬ (z11 = 0) → S11.1 x0 = 13 ∧ CT l G bX12_expression d mc11 ms11 [vr x0, vi 8, vi 0, vi 0] S11 V11 (fun z23 S23 V23 mc23 ms23 => S23.1 x0 = 13 ∧ CT l G bX12_taken d mc23 ms23 [vr x0, vi z23] S23 V23 (fun z25 S25 V25 mc25 ms25 => Q z25 S25 V25)))))) : XJ l G bX12_readFactor Q d 203 [vr x0, vu, vu] [] S V mc ms := by
  refine X_aload_n dX12_readFactor_203 rfl ?_
  refine X_getfield (ci := 12) (k := 45) (v := vi (V x0 45)) dX12_readFactor_204 rfl (by decide) kf_RX12_360 rfl h.1 ?_
  refine X_if_eq dX12_readFactor_207 (tgt := 233) rfl (fun c1 => ?_) (fun c1 => ?_)
  · refine X_aload_n dX12_readFactor_233 rfl ?_
    refine X_ldcS (i := 14) dX12_readFactor_234 (by decide) ⟨rfl, rfl⟩ ?_
    refine X_invV (ci := 12) (as := [vr ((G.2.2.2.1 14 : Int) + 1)]) (st := []) okX12_isWord dX12_readFactor_236 km_RX12_235 rfl rfl (Nat.le_of_ble_eq_true rfl) rfl rfl h.1 (CT.imp (h.2.1 c1) (fun z2 S2 V2 mc2 ms2 hc3 => ?_))
    refine X_if_eq dX12_readFactor_239 (tgt := 255) rfl (fun c4 => ?_) (fun c4 => ?_)
    · refine X_aload_n dX12_readFactor_255 rfl ?_
      refine X_invV (ci := 12) (as := []) (st := []) okX12_readReference dX12_readFactor_256 km_RX12_382 rfl rfl (Nat.le_of_ble_eq_true rfl) rfl rfl (hc3.1 c4).1 (CT.imp (hc3.1 c4).2 (fun z5 S5 V5 mc5 ms5 hc6 => ?_))
      exact X_ret (z := z5) dX12_readFactor_259 rfl (fun hv => vok_h hv) hc6
    · refine X_aload_n dX12_readFactor_242 rfl ?_
      refine X_aload_n dX12_readFactor_243 rfl ?_
      refine X_bipush dX12_readFactor_244 (by decide) (by decide) ?_
      refine X_iconst dX12_readFactor_246 (by decide) ?_
      refine X_iconst dX12_readFactor_247 (by decide) ?_
      refine X_invV (ci := 12) (as := [vi 9, vi 0, vi 0]) (st := [vr x0]) okX12_expression dX12_readFactor_248 km_RX12_372 rfl rfl (Nat.le_of_ble_eq_true rfl) rfl rfl (hc3.2 c4).1 (CT.imp (hc3.2 c4).2 (fun z7 S7 V7 mc7 ms7 hc8 => ?_))
      refine X_invV (ci := 12) (as := [vi z7]) (st := []) okX12_taken dX12_readFactor_251 km_RX12_379 rfl rfl (Nat.le_of_ble_eq_true rfl) rfl rfl hc8.1 (CT.imp hc8.2 (fun z9 S9 V9 mc9 ms9 hc10 => ?_))
      exact X_ret (z := z9) dX12_readFactor_254 rfl (fun hv => vok_h hv) hc10
  · refine X_aload_n dX12_readFactor_210 rfl ?_
    refine X_ldcwS (i := 15) dX12_readFactor_211 (by decide) ⟨rfl, rfl⟩ ?_
    refine X_invV (ci := 12) (as := [vr ((G.2.2.2.1 15 : Int) + 1)]) (st := []) okX12_isWord dX12_readFactor_214 km_RX12_235 rfl rfl (Nat.le_of_ble_eq_true rfl) rfl rfl h.1 (CT.imp (h.2.2 c1) (fun z11 S11 V11 mc11 ms11 hc12 => ?_))
    refine X_if_eq dX12_readFactor_217 (tgt := 233) rfl (fun c13 => ?_) (fun c13 => ?_)
    · refine X_aload_n dX12_readFactor_233 rfl ?_
      refine X_ldcS (i := 14) dX12_readFactor_234 (by decide) ⟨rfl, rfl⟩ ?_
      refine X_invV (ci := 12) (as := [vr ((G.2.2.2.1 14 : Int) + 1)]) (st := []) okX12_isWord dX12_readFactor_236 km_RX12_235 rfl rfl (Nat.le_of_ble_eq_true rfl) rfl rfl (hc12.1 c13).1 (CT.imp (hc12.1 c13).2 (fun z14 S14 V14 mc14 ms14 hc15 => ?_))
      refine X_if_eq dX12_readFactor_239 (tgt := 255) rfl (fun c16 => ?_) (fun c16 => ?_)
      · refine X_aload_n dX12_readFactor_255 rfl ?_
        refine X_invV (ci := 12) (as := []) (st := []) okX12_readReference dX12_readFactor_256 km_RX12_382 rfl rfl (Nat.le_of_ble_eq_true rfl) rfl rfl (hc15.1 c16).1 (CT.imp (hc15.1 c16).2 (fun z17 S17 V17 mc17 ms17 hc18 => ?_))
        exact X_ret (z := z17) dX12_readFactor_259 rfl (fun hv => vok_h hv) hc18
      · refine X_aload_n dX12_readFactor_242 rfl ?_
        refine X_aload_n dX12_readFactor_243 rfl ?_
        refine X_bipush dX12_readFactor_244 (by decide) (by decide) ?_
        refine X_iconst dX12_readFactor_246 (by decide) ?_
        refine X_iconst dX12_readFactor_247 (by decide) ?_
        refine X_invV (ci := 12) (as := [vi 9, vi 0, vi 0]) (st := [vr x0]) okX12_expression dX12_readFactor_248 km_RX12_372 rfl rfl (Nat.le_of_ble_eq_true rfl) rfl rfl (hc15.2 c16).1 (CT.imp (hc15.2 c16).2 (fun z19 S19 V19 mc19 ms19 hc20 => ?_))
        refine X_invV (ci := 12) (as := [vi z19]) (st := []) okX12_taken dX12_readFactor_251 km_RX12_379 rfl rfl (Nat.le_of_ble_eq_true rfl) rfl rfl hc20.1 (CT.imp hc20.2 (fun z21 S21 V21 mc21 ms21 hc22 => ?_))
        exact X_ret (z := z21) dX12_readFactor_254 rfl (fun hv => vok_h hv) hc22
    · refine X_aload_n dX12_readFactor_220 rfl ?_
      refine X_aload_n dX12_readFactor_221 rfl ?_
      refine X_bipush dX12_readFactor_222 (by decide) (by decide) ?_
      refine X_iconst dX12_readFactor_224 (by decide) ?_
      refine X_iconst dX12_readFactor_225 (by decide) ?_
      refine X_invV (ci := 12) (as := [vi 8, vi 0, vi 0]) (st := [vr x0]) okX12_expression dX12_readFactor_226 km_RX12_372 rfl rfl (Nat.le_of_ble_eq_true rfl) rfl rfl (hc12.2 c13).1 (CT.imp (hc12.2 c13).2 (fun z23 S23 V23 mc23 ms23 hc24 => ?_))
      refine X_invV (ci := 12) (as := [vi z23]) (st := []) okX12_taken dX12_readFactor_229 km_RX12_379 rfl rfl (Nat.le_of_ble_eq_true rfl) rfl rfl hc24.1 (CT.imp hc24.2 (fun z25 S25 V25 mc25 ms25 hc26 => ?_))
      exact X_ret (z := z25) dX12_readFactor_232 rfl (fun hv => vok_h hv) hc26
theorem qX12_readFactor {l : Launch} {G : GT} {Q : Int → Sh → Mem → Prop} {d : Nat} {S : Sh} {V : Mem} {mc ms : Nat} {x0 : Int} (h : 0 ≤ x0 → XJ l G bX12_readFactor Q d 0 [vr x0, vu, vu] [] S V mc ms) : Ct l G bX12_readFactor Q d mc ms [vr x0] S V := Ct.of okX12_readFactor.1 trivial (Nat.le_of_ble_eq_true rfl) (fun hv => h (hv _ (List.mem_of_getElem? (i := 0) rfl)))
set_option maxRecDepth 10000 in
theorem vX12_taken_0 {l : Launch} {G : GT} {Q : Int → Sh → Mem → Prop} {d : Nat} {S : Sh} {V : Mem} {mc ms : Nat} {x0 x1 : Int} (h : S.1 x0 = 13 ∧ CT l G bX12_next d mc ms [vr x0] S V (fun z1 S1 V1 mc1 ms1 => Q x1 S1 V1)) : XJ l G bX12_taken Q d 0 [vr x0, vi x1] [] S V mc ms := by
  refine X_aload_n dX12_taken_0 rfl ?_
  refine X_invV (ci := 12) (as := []) (st := []) okX12_next dX12_taken_1 km_RX12_285 rfl rfl (Nat.le_of_ble_eq_true rfl) rfl rfl h.1 (CT.imp h.2 (fun z1 S1 V1 mc1 ms1 hc2 => ?_))
  refine X_iload_n dX12_taken_4 rfl ?_
  exact X_ret (z := x1) dX12_taken_5 rfl (fun hv => vok_h hv) hc2
theorem qX12_taken {l : Launch} {G : GT} {Q : Int → Sh → Mem → Prop} {d : Nat} {S : Sh} {V : Mem} {mc ms : Nat} {x0 x1 : Int} (h : 0 ≤ x0 → inI x1 → XJ l G bX12_taken Q d 0 [vr x0, vi x1] [] S V mc ms) : Ct l G bX12_taken Q d mc ms [vr x0, vi x1] S V := Ct.of okX12_taken.1 trivial (Nat.le_of_ble_eq_true rfl) (fun hv => h (hv _ (List.mem_of_getElem? (i := 0) rfl)) (hv _ (List.mem_of_getElem? (i := 1) rfl)))
set_option maxRecDepth 10000 in
theorem vX12_readReference_0 {l : Launch} {G : GT} {Q : Int → Sh → Mem → Prop} {d : Nat} {S : Sh} {V : Mem} {mc ms : Nat} {x0 : Int} (h : S.1 x0 = 13 ∧ CT l G bX12_isName d mc ms [vr x0] S V (fun z1 S1 V1 mc1 ms1 => (z1 ≠ 0 → S1.1 x0 = 13 ∧ CT l G bX12_nameHere d mc1 ms1 [vr x0] S1 V1 (fun z4 S4 V4 mc4 ms4 => S4.1 x0 = 13 ∧ -2147483648 ≤ (V4 x0 51) + 1 ∧ (V4 x0 51) + 1 ≤ 2147483647 ∧ S4.1 (V4 x0 49) = 20 ∧ 0 ≤ (V4 x0 51) ∧ (V4 x0 51) < S4.2.1 (V4 x0 49) ∧ S4.1 (V4 x0 50) = 20 ∧ (V4 x0 51) < S4.2.1 (V4 x0 50) ∧ CT l G bX12_next d mc4 ms4 [vr x0] S4 (up (up (up V4 x0 51 ((V4 x0 51) + 1)) (V4 x0 49) (V4 x0 51) (-1)) (V4 x0 50) (V4 x0 51) z4) (fun z6 S6 V6 mc6 ms6 => S6.1 x0 = 13 ∧ CT l G bX12_isSign d mc6 ms6 [vr x0, vi 46] S6 V6 (fun z8 S8 V8 mc8 ms8 => (z8 = 0 → S8.1 x0 = 13 ∧ CT l G bX12_expression d mc8 ms8 [vr x0, vi 10, vi (-1), vi (-1)] S8 V8 (fun z11 S11 V11 mc11 ms11 => S11.1 x0 = 13 ∧ S11.1 (V11 x0 48) = 20 ∧ 0 ≤ (V4 x0 51) ∧ (V4 x0 51) < S11.2.1 (V11 x0 48) ∧ (0 < (V11 x0 46) → Q z11 S11 (up V11 (V11 x0 48) (V4 x0 51) z11)) ∧ (¬ (0 < (V11 x0 46)) → CT l G bX12_isSign d mc11 ms11 [vr x0, vi 91] S11 (up V11 (V11 x0 48) (V4 x0 51) z11) (fun z14 S14 V14 mc14 ms14 => (z14 ≠ 0 → S14.1 x0 = 13 ∧ ((V14 x0 42) ≠ 12 → -2147483648 ≤ (V14 x0 42) + 1 ∧ (V14 x0 42) + 1 ≤ 2147483647 ∧ CT l G bX12_next d mc14 ms14 [vr x0] S14 (up V14 x0 42 ((V14 x0 42) + 1)) (fun z18 S18 V18 mc18 ms18 => S18.1 x0 = 13 ∧ CT l G bX12_readSum d mc18 ms18 [vr x0] S18 V18 (fun z20 S20 V20 mc20 ms20 => S20.1 x0 = 13 ∧ CT l G bX12_sign d mc20 ms20 [vr x0, vi 93] S20 V20 (fun z22 S22 V22 mc22 ms22 => S22.1 x0 = 13 ∧ -2147483648 ≤ (V22 x0 42) - 1 ∧ (V22 x0 42) - 1 ≤ 2147483647 ∧ ((V22 x0 46) ≤ 0 → S22.1 (V22 x0 35) = 20 ∧ 0 ≤ z11 ∧ z11 < S22.2.1 (V22 x0 35) ∧ S22.1 (V22 x0 37) = 20 ∧ z11 < S22.2.1 (V22 x0 37) ∧ Q z11 S22 (up (up (up V22 x0 42 ((V22 x0 42) - 1)) (V22 x0 35) z11 12) (V22 x0 37) z11 z20)) ∧ (¬ ((V22 x0 46) ≤ 0) → Q z11 S22 (up V22 x0 42 ((V22 x0 42) - 1))))))) ∧ (¬ ((V14 x0 42) ≠ 12) → CT l G bX12_fault d mc14 ms14 [vr x0, vi 5] S14 V14 (fun z25 S25 V25 mc25 ms25 => Q z25 S25 V25))) ∧ (¬ (z14 ≠ 0) → Q z11 S14 V14))))) ∧ (¬ (z8 = 0) → S8.1 x0 = 13 ∧ CT l G bX12_next d mc8 ms8 [vr x0] S8 V8 (fun z27 S27 V27 mc27 ms27 => S27.1 x0 = 13 ∧ CT l G bX12_isName d mc27 ms27 [vr x0] S27 V27 (fun z29 S29 V29 mc29 ms29 => (z29 ≠ 0 → S29.1 x0 = 13 ∧ S29.1 (V29 x0 49) = 20 ∧ 0 ≤ (V4 x0 51) ∧ (V4 x0 51) < S29.2.1 (V29 x0 49) ∧ CT l G bX12_nameHere d mc29 ms29 [vr x0] S29 (up V29 (V29 x0 49) (V4 x0 51) z4) (fun z32 S32 V32 mc32 ms32 => S32.1 (V29 x0 50) = 20 ∧ 0 ≤ (V4 x0 51) ∧ (V4 x0 51) < S32.2.1 (V29 x0 50) ∧ S32.1 x0 = 13 ∧ CT l G bX12_next d mc32 ms32 [vr x0] S32 (up V32 (V29 x0 50) (V4 x0 51) z32) (fun z34 S34 V34 mc34 ms34 => S34.1 x0 = 13 ∧ CT l G bX12_expression d mc34 ms34 [vr x0, vi 10, vi (-1), vi (-1)] S34 V34 (fun z36 S36 V36 mc36 ms36 => S36.1 x0 = 13 ∧ S36.1 (V36 x0 48) = 20 ∧ 0 ≤ (V4 x0 51) ∧ (V4 x0 51) < S36.2.1 (V36 x0 48) ∧ (0 < (V36 x0 46) → Q z36 S36 (up V36 (V36 x0 48) (V4 x0 51) z36)) ∧ (¬ (0 < (V36 x0 46)) → CT l G bX12_isSign d mc36 ms36 [vr x0, vi 91] S36 (up V36 (V36 x0 48) (V4 x0 51) z36) (fun z39 S39 V39 mc39 ms39 => (z39 ≠ 0 → S39.1 x0 = 13 ∧ ((V39 x0 42) ≠ 12 → -2147483648 ≤ (V39 x0 42) + 1 ∧ (V39 x0 42) + 1 ≤ 2147483647 ∧ CT l G bX12_next d mc39 ms39 [vr x0] S39 (up V39 x0 42 ((V39 x0 42) + 1)) (fun z43 S43 V43 mc43 ms43 => S43.1 x0 = 13 ∧ CT l G bX12_readSum d mc43 ms43 [vr x0] S43 V43 (fun z45 S45 V45 mc45 ms45 => S45.1 x0 = 13 ∧ CT l G bX12_sign d mc45 ms45 [vr x0, vi 93] S45 V45 (fun z47 S47 V47 mc47 ms47 => S47.1 x0 = 13 ∧ -2147483648 ≤ (V47 x0 42) - 1 ∧ (V47 x0 42) - 1 ≤ 2147483647 ∧ ((V47 x0 46) ≤ 0 → S47.1 (V47 x0 35) = 20 ∧ 0 ≤ z36 ∧ z36 < S47.2.1 (V47 x0 35) ∧ S47.1 (V47 x0 37) = 20 ∧ z36 < S47.2.1 (V47 x0 37) ∧ Q z36 S47 (up (up (up V47 x0 42 ((V47 x0 42) - 1)) (V47 x0 35) z36 12) (V47 x0 37) z36 z45)) ∧ (¬ ((V47 x0 46) ≤ 0) → Q z36 S47 (up V47 x0 42 ((V47 x0 42) - 1))))))) ∧ (¬ ((V39 x0 42) ≠ 12) → CT l G bX12_fault d mc39 ms39 [vr x0, vi 5] S39 V39 (fun z50 S50 V50 mc50 ms50 => Q z50 S50 V50))) ∧ (¬ (z39 ≠ 0) → Q z36 S39 V39))))))) ∧ (¬ (z29 ≠ 0) → S29.1 x0 = 13 ∧ CT l G bX12_fault d mc29 ms29 [vr x0, vi 2] S29 V29 (fun z52 S52 V52 mc52 ms52 => Q z52 S52 V52))))))))) ∧ (¬ (z1 ≠ 0) → S1.1 x0 = 13 ∧ CT l G bX12_fault d mc1 ms1 [vr x0, vi 2] S1 V1 (fun z54 S54 V54 mc54 ms54 => Q z54 S54 V54)))) : XJ l G bX12_readReference Q d 0 [vr x0, vu, vu, vu, vu] [] S V mc ms := by
  refine X_aload_n dX12_readReference_0 rfl ?_
  refine X_invV (ci := 12) (as := []) (st := []) okX12_isName dX12_readReference_1 km_RX12_291 rfl rfl (Nat.le_of_ble_eq_true rfl) rfl rfl h.1 (CT.imp h.2 (fun z1 S1 V1 mc1 ms1 hc2 => ?_))
  refine X_if_ne dX12_readReference_4 (tgt := 13) rfl (fun c3 => ?_) (fun c3 => ?_)
  · refine X_aload_n dX12_readReference_13 rfl ?_
    refine X_invV (ci := 12) (as := []) (st := []) okX12_nameHere dX12_readReference_14 km_RX12_294 rfl rfl (Nat.le_of_ble_eq_true rfl) rfl rfl (hc2.1 c3).1 (CT.imp (hc2.1 c3).2 (fun z4 S4 V4 mc4 ms4 hc5 => ?_))
    refine X_istore_n dX12_readReference_17 (by decide) rfl ?_
    refine X_aload_n dX12_readReference_18 rfl ?_
    refine X_getfield (ci := 12) (k := 51) (v := vi (V4 x0 51)) dX12_readReference_19 rfl (by decide) kf_RX12_301 rfl hc5.1 ?_
    refine X_istore_n dX12_readReference_22 (by decide) rfl ?_
    refine X_aload_n dX12_readReference_23 rfl ?_
    refine X_dup dX12_readReference_24 (rv_cat _) ?_
    refine X_getfield (ci := 12) (k := 51) (v := vi (V4 x0 51)) dX12_readReference_25 rfl (by decide) kf_RX12_301 rfl hc5.1 ?_
    refine X_iconst dX12_readReference_28 (by decide) ?_
    refine X_iaddN dX12_readReference_29 hc5.2.1 hc5.2.2.1 ?_
    refine X_putfield (ci := 12) (k := 51) (z := ((V4 x0 51) + 1)) dX12_readReference_30 rfl (by decide) kf_RX12_301 (Or.inl rfl) (Or.inl rfl) rfl (fun hv => hv) hc5.1 ?_
    refine X_aload_n dX12_readReference_33 rfl ?_
    refine X_getfield (ci := 12) (k := 49) (v := vr (V4 x0 49)) dX12_readReference_34 rfl (by decide) kf_RX12_110 (congrArg vr (up_ne (Or.inr (by decide)))) hc5.1 ?_
    refine X_iload_n dX12_readReference_37 rfl ?_
    refine X_iconst dX12_readReference_38 (by decide) ?_
    refine X_iastore dX12_readReference_39 hc5.2.2.2.1 hc5.2.2.2.2.1 hc5.2.2.2.2.2.1 ?_
    refine X_aload_n dX12_readReference_40 rfl ?_
    refine X_getfield (ci := 12) (k := 50) (v := vr (V4 x0 50)) dX12_readReference_41 rfl (by decide) kf_RX12_113 (congrArg vr ((up_ne (Or.inl (tag_ne hc5.1 hc5.2.2.2.1 (by decide)))).trans (up_ne (Or.inr (by decide))))) hc5.1 ?_
    refine X_iload_n dX12_readReference_44 rfl ?_
    refine X_iload_n dX12_readReference_45 rfl ?_
    refine X_iastore dX12_readReference_46 hc5.2.2.2.2.2.2.1 hc5.2.2.2.2.1 hc5.2.2.2.2.2.2.2.1 ?_
    refine X_aload_n dX12_readReference_47 rfl ?_
    refine X_invV (ci := 12) (as := []) (st := []) okX12_next dX12_readReference_48 km_RX12_285 rfl rfl (Nat.le_of_ble_eq_true rfl) rfl rfl hc5.1 (CT.imp hc5.2.2.2.2.2.2.2.2 (fun z6 S6 V6 mc6 ms6 hc7 => ?_))
    refine X_aload_n dX12_readReference_51 rfl ?_
    refine X_bipush dX12_readReference_52 (by decide) (by decide) ?_
    refine X_invV (ci := 12) (as := [vi 46]) (st := []) okX12_isSign dX12_readReference_54 km_RX12_281 rfl rfl (Nat.le_of_ble_eq_true rfl) rfl rfl hc7.1 (CT.imp hc7.2 (fun z8 S8 V8 mc8 ms8 hc9 => ?_))
    refine X_if_eq dX12_readReference_57 (tgt := 98) rfl (fun c10 => ?_) (fun c10 => ?_)
    · refine X_aload_n dX12_readReference_98 rfl ?_
      refine X_bipush dX12_readReference_99 (by decide) (by decide) ?_
      refine X_iconst dX12_readReference_101 (by decide) ?_
      refine X_iconst dX12_readReference_102 (by decide) ?_
      refine X_invV (ci := 12) (as := [vi 10, vi (-1), vi (-1)]) (st := []) okX12_expression dX12_readReference_103 km_RX12_372 rfl rfl (Nat.le_of_ble_eq_true rfl) rfl rfl (hc9.1 c10).1 (CT.imp (hc9.1 c10).2 (fun z11 S11 V11 mc11 ms11 hc12 => ?_))
      refine X_istore_n dX12_readReference_106 (by decide) rfl ?_
      refine X_aload_n dX12_readReference_107 rfl ?_
      refine X_getfield (ci := 12) (k := 48) (v := vr (V11 x0 48)) dX12_readReference_108 rfl (by decide) kf_RX12_107 rfl hc12.1 ?_
      refine X_iload_n dX12_readReference_111 rfl ?_
      refine X_iload_n dX12_readReference_112 rfl ?_
      refine X_iastore dX12_readReference_113 hc12.2.1 hc12.2.2.1 hc12.2.2.2.1 ?_
      refine X_aload_n dX12_readReference_114 rfl ?_
      refine X_getfield (ci := 12) (k := 46) (v := vi (V11 x0 46)) dX12_readReference_115 rfl (by decide) kf_RX12_275 (congrArg vi (up_ne (Or.inl (tag_ne hc12.1 hc12.2.1 (by decide))))) hc12.1 ?_
      refine X_if_gt dX12_readReference_118 (tgt := 130) rfl (fun c13 => ?_) (fun c13 => ?_)
      · refine X_iload_n dX12_readReference_130 rfl ?_
        exact X_ret (z := z11) dX12_readReference_131 rfl (fun hv => vok_h hv) (hc12.2.2.2.2.1 c13)
      · refine X_aload_n dX12_readReference_121 rfl ?_
        refine X_bipush dX12_readReference_122 (by decide) (by decide) ?_
        refine X_invV (ci := 12) (as := [vi 91]) (st := []) okX12_isSign dX12_readReference_124 km_RX12_281 rfl rfl (Nat.le_of_ble_eq_true rfl) rfl rfl hc12.1 (CT.imp (hc12.2.2.2.2.2 c13) (fun z14 S14 V14 mc14 ms14 hc15 => ?_))
        refine X_if_ne dX12_readReference_127 (tgt := 132) rfl (fun c16 => ?_) (fun c16 => ?_)
        · refine X_aload_n dX12_readReference_132 rfl ?_
          refine X_getfield (ci := 12) (k := 42) (v := vi (V14 x0 42)) dX12_readReference_133 rfl (by decide) kf_RX12_363 rfl (hc15.1 c16).1 ?_
          refine X_bipush dX12_readReference_136 (by decide) (by decide) ?_
          refine X_icmp_ne dX12_readReference_138 (tgt := 147) rfl (fun c17 => ?_) (fun c17 => ?_)
          · refine X_aload_n dX12_readReference_147 rfl ?_
            refine X_dup dX12_readReference_148 (rv_cat _) ?_
            refine X_getfield (ci := 12) (k := 42) (v := vi (V14 x0 42)) dX12_readReference_149 rfl (by decide) kf_RX12_363 rfl (hc15.1 c16).1 ?_
            refine X_iconst dX12_readReference_152 (by decide) ?_
            refine X_iaddN dX12_readReference_153 ((hc15.1 c16).2.1 c17).1 ((hc15.1 c16).2.1 c17).2.1 ?_
            refine X_putfield (ci := 12) (k := 42) (z := ((V14 x0 42) + 1)) dX12_readReference_154 rfl (by decide) kf_RX12_363 (Or.inl rfl) (Or.inl rfl) rfl (fun hv => hv) (hc15.1 c16).1 ?_
            refine X_aload_n dX12_readReference_157 rfl ?_
            refine X_invV (ci := 12) (as := []) (st := []) okX12_next dX12_readReference_158 km_RX12_285 rfl rfl (Nat.le_of_ble_eq_true rfl) rfl rfl (hc15.1 c16).1 (CT.imp ((hc15.1 c16).2.1 c17).2.2 (fun z18 S18 V18 mc18 ms18 hc19 => ?_))
            refine X_aload_n dX12_readReference_161 rfl ?_
            refine X_invV (ci := 12) (as := []) (st := []) okX12_readSum dX12_readReference_162 km_RX12_366 rfl rfl (Nat.le_of_ble_eq_true rfl) rfl rfl hc19.1 (CT.imp hc19.2 (fun z20 S20 V20 mc20 ms20 hc21 => ?_))
            refine X_istore dX12_readReference_165 (by decide) rfl ?_
            refine X_aload_n dX12_readReference_167 rfl ?_
            refine X_bipush dX12_readReference_168 (by decide) (by decide) ?_
            refine X_invV (ci := 12) (as := [vi 93]) (st := []) okX12_sign dX12_readReference_170 km_RX12_318 rfl rfl (Nat.le_of_ble_eq_true rfl) rfl rfl hc21.1 (CT.imp hc21.2 (fun z22 S22 V22 mc22 ms22 hc23 => ?_))
            refine X_aload_n dX12_readReference_173 rfl ?_
            refine X_dup dX12_readReference_174 (rv_cat _) ?_
            refine X_getfield (ci := 12) (k := 42) (v := vi (V22 x0 42)) dX12_readReference_175 rfl (by decide) kf_RX12_363 rfl hc23.1 ?_
            refine X_iconst dX12_readReference_178 (by decide) ?_
            refine X_isubN dX12_readReference_179 hc23.2.1 hc23.2.2.1 ?_
            refine X_putfield (ci := 12) (k := 42) (z := ((V22 x0 42) - 1)) dX12_readReference_180 rfl (by decide) kf_RX12_363 (Or.inl rfl) (Or.inl rfl) rfl (fun hv => hv) hc23.1 ?_
            refine X_aload_n dX12_readReference_183 rfl ?_
            refine X_getfield (ci := 12) (k := 46) (v := vi (V22 x0 46)) dX12_readReference_184 rfl (by decide) kf_RX12_275 (congrArg vi (up_ne (Or.inr (by decide)))) hc23.1 ?_
            refine X_if_le dX12_readReference_187 (tgt := 192) rfl (fun c24 => ?_) (fun c24 => ?_)
            · refine X_aload_n dX12_readReference_192 rfl ?_
              refine X_getfield (ci := 12) (k := 35) (v := vr (V22 x0 35)) dX12_readReference_193 rfl (by decide) kf_RX12_92 (congrArg vr (up_ne (Or.inr (by decide)))) hc23.1 ?_
              refine X_iload_n dX12_readReference_196 rfl ?_
              refine X_bipush dX12_readReference_197 (by decide) (by decide) ?_
              refine X_iastore dX12_readReference_199 (hc23.2.2.2.1 c24).1 (hc23.2.2.2.1 c24).2.1 (hc23.2.2.2.1 c24).2.2.1 ?_
              refine X_aload_n dX12_readReference_200 rfl ?_
              refine X_getfield (ci := 12) (k := 37) (v := vr (V22 x0 37)) dX12_readReference_201 rfl (by decide) kf_RX12_98 (congrArg vr ((up_ne (Or.inl (tag_ne hc23.1 (hc23.2.2.2.1 c24).1 (by decide)))).trans (up_ne (Or.inr (by decide))))) hc23.1 ?_
              refine X_iload_n dX12_readReference_204 rfl ?_
              refine X_iload dX12_readReference_205 rfl ?_
              refine X_iastore dX12_readReference_207 (hc23.2.2.2.1 c24).2.2.2.1 (hc23.2.2.2.1 c24).2.1 (hc23.2.2.2.1 c24).2.2.2.2.1 ?_
              refine X_iload_n dX12_readReference_208 rfl ?_
              exact X_ret (z := z11) dX12_readReference_209 rfl (fun hv => vok_h hv) (hc23.2.2.2.1 c24).2.2.2.2.2
            · refine X_iload_n dX12_readReference_190 rfl ?_
              exact X_ret (z := z11) dX12_readReference_191 rfl (fun hv => vok_h hv) (hc23.2.2.2.2 c24)
          · refine X_aload_n dX12_readReference_141 rfl ?_
            refine X_iconst dX12_readReference_142 (by decide) ?_
            refine X_invV (ci := 12) (as := [vi 5]) (st := []) okX12_fault dX12_readReference_143 km_RX12_288 rfl rfl (Nat.le_of_ble_eq_true rfl) rfl rfl (hc15.1 c16).1 (CT.imp ((hc15.1 c16).2.2 c17) (fun z25 S25 V25 mc25 ms25 hc26 => ?_))
            exact X_ret (z := z25) dX12_readReference_146 rfl (fun hv => vok_h hv) hc26
        · refine X_iload_n dX12_readReference_130 rfl ?_
          exact X_ret (z := z11) dX12_readReference_131 rfl (fun hv => vok_h hv) (hc15.2 c16)
    · refine X_aload_n dX12_readReference_60 rfl ?_
      refine X_invV (ci := 12) (as := []) (st := []) okX12_next dX12_readReference_61 km_RX12_285 rfl rfl (Nat.le_of_ble_eq_true rfl) rfl rfl (hc9.2 c10).1 (CT.imp (hc9.2 c10).2 (fun z27 S27 V27 mc27 ms27 hc28 => ?_))
      refine X_aload_n dX12_readReference_64 rfl ?_
      refine X_invV (ci := 12) (as := []) (st := []) okX12_isName dX12_readReference_65 km_RX12_291 rfl rfl (Nat.le_of_ble_eq_true rfl) rfl rfl hc28.1 (CT.imp hc28.2 (fun z29 S29 V29 mc29 ms29 hc30 => ?_))
      refine X_if_ne dX12_readReference_68 (tgt := 77) rfl (fun c31 => ?_) (fun c31 => ?_)
      · refine X_aload_n dX12_readReference_77 rfl ?_
        refine X_getfield (ci := 12) (k := 49) (v := vr (V29 x0 49)) dX12_readReference_78 rfl (by decide) kf_RX12_110 rfl (hc30.1 c31).1 ?_
        refine X_iload_n dX12_readReference_81 rfl ?_
        refine X_iload_n dX12_readReference_82 rfl ?_
        refine X_iastore dX12_readReference_83 (hc30.1 c31).2.1 (hc30.1 c31).2.2.1 (hc30.1 c31).2.2.2.1 ?_
        refine X_aload_n dX12_readReference_84 rfl ?_
        refine X_getfield (ci := 12) (k := 50) (v := vr (V29 x0 50)) dX12_readReference_85 rfl (by decide) kf_RX12_113 (congrArg vr (up_ne (Or.inl (tag_ne (hc30.1 c31).1 (hc30.1 c31).2.1 (by decide))))) (hc30.1 c31).1 ?_
        refine X_iload_n dX12_readReference_88 rfl ?_
        refine X_aload_n dX12_readReference_89 rfl ?_
        refine X_invV (ci := 12) (as := []) (st := [vi (V4 x0 51), vr (V29 x0 50)]) okX12_nameHere dX12_readReference_90 km_RX12_294 rfl rfl (Nat.le_of_ble_eq_true rfl) rfl rfl (hc30.1 c31).1 (CT.imp (hc30.1 c31).2.2.2.2 (fun z32 S32 V32 mc32 ms32 hc33 => ?_))
        refine X_iastore dX12_readReference_93 hc33.1 hc33.2.1 hc33.2.2.1 ?_
        refine X_aload_n dX12_readReference_94 rfl ?_
        refine X_invV (ci := 12) (as := []) (st := []) okX12_next dX12_readReference_95 km_RX12_285 rfl rfl (Nat.le_of_ble_eq_true rfl) rfl rfl hc33.2.2.2.1 (CT.imp hc33.2.2.2.2 (fun z34 S34 V34 mc34 ms34 hc35 => ?_))
        refine X_aload_n dX12_readReference_98 rfl ?_
        refine X_bipush dX12_readReference_99 (by decide) (by decide) ?_
        refine X_iconst dX12_readReference_101 (by decide) ?_
        refine X_iconst dX12_readReference_102 (by decide) ?_
        refine X_invV (ci := 12) (as := [vi 10, vi (-1), vi (-1)]) (st := []) okX12_expression dX12_readReference_103 km_RX12_372 rfl rfl (Nat.le_of_ble_eq_true rfl) rfl rfl hc35.1 (CT.imp hc35.2 (fun z36 S36 V36 mc36 ms36 hc37 => ?_))
        refine X_istore_n dX12_readReference_106 (by decide) rfl ?_
        refine X_aload_n dX12_readReference_107 rfl ?_
        refine X_getfield (ci := 12) (k := 48) (v := vr (V36 x0 48)) dX12_readReference_108 rfl (by decide) kf_RX12_107 rfl hc37.1 ?_
        refine X_iload_n dX12_readReference_111 rfl ?_
        refine X_iload_n dX12_readReference_112 rfl ?_
        refine X_iastore dX12_readReference_113 hc37.2.1 hc37.2.2.1 hc37.2.2.2.1 ?_
        refine X_aload_n dX12_readReference_114 rfl ?_
        refine X_getfield (ci := 12) (k := 46) (v := vi (V36 x0 46)) dX12_readReference_115 rfl (by decide) kf_RX12_275 (congrArg vi (up_ne (Or.inl (tag_ne hc37.1 hc37.2.1 (by decide))))) hc37.1 ?_
        refine X_if_gt dX12_readReference_118 (tgt := 130) rfl (fun c38 => ?_) (fun c38 => ?_)
        · refine X_iload_n dX12_readReference_130 rfl ?_
          exact X_ret (z := z36) dX12_readReference_131 rfl (fun hv => vok_h hv) (hc37.2.2.2.2.1 c38)
        · refine X_aload_n dX12_readReference_121 rfl ?_
          refine X_bipush dX12_readReference_122 (by decide) (by decide) ?_
          refine X_invV (ci := 12) (as := [vi 91]) (st := []) okX12_isSign dX12_readReference_124 km_RX12_281 rfl rfl (Nat.le_of_ble_eq_true rfl) rfl rfl hc37.1 (CT.imp (hc37.2.2.2.2.2 c38) (fun z39 S39 V39 mc39 ms39 hc40 => ?_))
          refine X_if_ne dX12_readReference_127 (tgt := 132) rfl (fun c41 => ?_) (fun c41 => ?_)
          · refine X_aload_n dX12_readReference_132 rfl ?_
            refine X_getfield (ci := 12) (k := 42) (v := vi (V39 x0 42)) dX12_readReference_133 rfl (by decide) kf_RX12_363 rfl (hc40.1 c41).1 ?_
            refine X_bipush dX12_readReference_136 (by decide) (by decide) ?_
            refine X_icmp_ne dX12_readReference_138 (tgt := 147) rfl (fun c42 => ?_) (fun c42 => ?_)
            · refine X_aload_n dX12_readReference_147 rfl ?_
              refine X_dup dX12_readReference_148 (rv_cat _) ?_
              refine X_getfield (ci := 12) (k := 42) (v := vi (V39 x0 42)) dX12_readReference_149 rfl (by decide) kf_RX12_363 rfl (hc40.1 c41).1 ?_
              refine X_iconst dX12_readReference_152 (by decide) ?_
              refine X_iaddN dX12_readReference_153 ((hc40.1 c41).2.1 c42).1 ((hc40.1 c41).2.1 c42).2.1 ?_
              refine X_putfield (ci := 12) (k := 42) (z := ((V39 x0 42) + 1)) dX12_readReference_154 rfl (by decide) kf_RX12_363 (Or.inl rfl) (Or.inl rfl) rfl (fun hv => hv) (hc40.1 c41).1 ?_
              refine X_aload_n dX12_readReference_157 rfl ?_
              refine X_invV (ci := 12) (as := []) (st := []) okX12_next dX12_readReference_158 km_RX12_285 rfl rfl (Nat.le_of_ble_eq_true rfl) rfl rfl (hc40.1 c41).1 (CT.imp ((hc40.1 c41).2.1 c42).2.2 (fun z43 S43 V43 mc43 ms43 hc44 => ?_))
              refine X_aload_n dX12_readReference_161 rfl ?_
              refine X_invV (ci := 12) (as := []) (st := []) okX12_readSum dX12_readReference_162 km_RX12_366 rfl rfl (Nat.le_of_ble_eq_true rfl) rfl rfl hc44.1 (CT.imp hc44.2 (fun z45 S45 V45 mc45 ms45 hc46 => ?_))
              refine X_istore dX12_readReference_165 (by decide) rfl ?_
              refine X_aload_n dX12_readReference_167 rfl ?_
              refine X_bipush dX12_readReference_168 (by decide) (by decide) ?_
              refine X_invV (ci := 12) (as := [vi 93]) (st := []) okX12_sign dX12_readReference_170 km_RX12_318 rfl rfl (Nat.le_of_ble_eq_true rfl) rfl rfl hc46.1 (CT.imp hc46.2 (fun z47 S47 V47 mc47 ms47 hc48 => ?_))
              refine X_aload_n dX12_readReference_173 rfl ?_
              refine X_dup dX12_readReference_174 (rv_cat _) ?_
              refine X_getfield (ci := 12) (k := 42) (v := vi (V47 x0 42)) dX12_readReference_175 rfl (by decide) kf_RX12_363 rfl hc48.1 ?_
              refine X_iconst dX12_readReference_178 (by decide) ?_
              refine X_isubN dX12_readReference_179 hc48.2.1 hc48.2.2.1 ?_
              refine X_putfield (ci := 12) (k := 42) (z := ((V47 x0 42) - 1)) dX12_readReference_180 rfl (by decide) kf_RX12_363 (Or.inl rfl) (Or.inl rfl) rfl (fun hv => hv) hc48.1 ?_
              refine X_aload_n dX12_readReference_183 rfl ?_
              refine X_getfield (ci := 12) (k := 46) (v := vi (V47 x0 46)) dX12_readReference_184 rfl (by decide) kf_RX12_275 (congrArg vi (up_ne (Or.inr (by decide)))) hc48.1 ?_
              refine X_if_le dX12_readReference_187 (tgt := 192) rfl (fun c49 => ?_) (fun c49 => ?_)
              · refine X_aload_n dX12_readReference_192 rfl ?_
                refine X_getfield (ci := 12) (k := 35) (v := vr (V47 x0 35)) dX12_readReference_193 rfl (by decide) kf_RX12_92 (congrArg vr (up_ne (Or.inr (by decide)))) hc48.1 ?_
                refine X_iload_n dX12_readReference_196 rfl ?_
                refine X_bipush dX12_readReference_197 (by decide) (by decide) ?_
                refine X_iastore dX12_readReference_199 (hc48.2.2.2.1 c49).1 (hc48.2.2.2.1 c49).2.1 (hc48.2.2.2.1 c49).2.2.1 ?_
                refine X_aload_n dX12_readReference_200 rfl ?_
                refine X_getfield (ci := 12) (k := 37) (v := vr (V47 x0 37)) dX12_readReference_201 rfl (by decide) kf_RX12_98 (congrArg vr ((up_ne (Or.inl (tag_ne hc48.1 (hc48.2.2.2.1 c49).1 (by decide)))).trans (up_ne (Or.inr (by decide))))) hc48.1 ?_
                refine X_iload_n dX12_readReference_204 rfl ?_
                refine X_iload dX12_readReference_205 rfl ?_
                refine X_iastore dX12_readReference_207 (hc48.2.2.2.1 c49).2.2.2.1 (hc48.2.2.2.1 c49).2.1 (hc48.2.2.2.1 c49).2.2.2.2.1 ?_
                refine X_iload_n dX12_readReference_208 rfl ?_
                exact X_ret (z := z36) dX12_readReference_209 rfl (fun hv => vok_h hv) (hc48.2.2.2.1 c49).2.2.2.2.2
              · refine X_iload_n dX12_readReference_190 rfl ?_
                exact X_ret (z := z36) dX12_readReference_191 rfl (fun hv => vok_h hv) (hc48.2.2.2.2 c49)
            · refine X_aload_n dX12_readReference_141 rfl ?_
              refine X_iconst dX12_readReference_142 (by decide) ?_
              refine X_invV (ci := 12) (as := [vi 5]) (st := []) okX12_fault dX12_readReference_143 km_RX12_288 rfl rfl (Nat.le_of_ble_eq_true rfl) rfl rfl (hc40.1 c41).1 (CT.imp ((hc40.1 c41).2.2 c42) (fun z50 S50 V50 mc50 ms50 hc51 => ?_))
              exact X_ret (z := z50) dX12_readReference_146 rfl (fun hv => vok_h hv) hc51
          · refine X_iload_n dX12_readReference_130 rfl ?_
            exact X_ret (z := z36) dX12_readReference_131 rfl (fun hv => vok_h hv) (hc40.2 c41)
      · refine X_aload_n dX12_readReference_71 rfl ?_
        refine X_iconst dX12_readReference_72 (by decide) ?_
        refine X_invV (ci := 12) (as := [vi 2]) (st := []) okX12_fault dX12_readReference_73 km_RX12_288 rfl rfl (Nat.le_of_ble_eq_true rfl) rfl rfl (hc30.2 c31).1 (CT.imp (hc30.2 c31).2 (fun z52 S52 V52 mc52 ms52 hc53 => ?_))
        exact X_ret (z := z52) dX12_readReference_76 rfl (fun hv => vok_h hv) hc53
  · refine X_aload_n dX12_readReference_7 rfl ?_
    refine X_iconst dX12_readReference_8 (by decide) ?_
    refine X_invV (ci := 12) (as := [vi 2]) (st := []) okX12_fault dX12_readReference_9 km_RX12_288 rfl rfl (Nat.le_of_ble_eq_true rfl) rfl rfl (hc2.2 c3).1 (CT.imp (hc2.2 c3).2 (fun z54 S54 V54 mc54 ms54 hc55 => ?_))
    exact X_ret (z := z54) dX12_readReference_12 rfl (fun hv => vok_h hv) hc55
theorem qX12_readReference {l : Launch} {G : GT} {Q : Int → Sh → Mem → Prop} {d : Nat} {S : Sh} {V : Mem} {mc ms : Nat} {x0 : Int} (h : 0 ≤ x0 → XJ l G bX12_readReference Q d 0 [vr x0, vu, vu, vu, vu] [] S V mc ms) : Ct l G bX12_readReference Q d mc ms [vr x0] S V := Ct.of okX12_readReference.1 trivial (Nat.le_of_ble_eq_true rfl) (fun hv => h (hv _ (List.mem_of_getElem? (i := 0) rfl)))
set_option maxRecDepth 10000 in
theorem vX12_settle_0 {l : Launch} {G : GT} {Q : Int → Sh → Mem → Prop} {d : Nat} {S : Sh} {V : Mem} {mc ms : Nat} {x0 x1 : Int} (h : S.1 x0 = 13 ∧ S.1 (V x0 48) = 20 ∧ 0 ≤ x1 ∧ x1 < S.2.1 (V x0 48) ∧ (0 ≤ (V (V x0 48) x1) → S.1 (V x0 39) = 20 ∧ 0 ≤ (V (V x0 48) x1) ∧ (V (V x0 48) x1) < S.2.1 (V x0 39) ∧ S.1 (V x0 49) = 20 ∧ x1 < S.2.1 (V x0 49) ∧ ((V (V x0 49) x1) ≠ (-1) → CT l G bX12_enumOf d mc ms [vr x0, vi (V (V x0 49) x1)] S V (fun z3 S3 V3 mc3 ms3 => (z3 ≠ (-1) → S3.1 x0 = 13 ∧ -2147483648 ≤ 12 * (V3 x0 9) ∧ 12 * (V3 x0 9) ≤ 2147483647 ∧ S3.1 (V3 x0 49) = 20 ∧ 0 ≤ x1 ∧ x1 < S3.2.1 (V3 x0 49) ∧ CT l G bX12_enumOf d mc3 ms3 [vr x0, vi (V3 (V3 x0 49) x1)] S3 V3 (fun z6 S6 V6 mc6 ms6 => -2147483648 ≤ (12 * (V3 x0 9)) + z6 ∧ (12 * (V3 x0 9)) + z6 ≤ 2147483647 ∧ XJ l G bX12_settle Q d 79 [vr x0, vi x1, vi (V (V x0 48) x1), vi (V (V x0 39) (V (V x0 48) x1)), vu, vu, vu, vu] [vi ((12 * (V3 x0 9)) + z6)] S6 V6 mc6 ms6)) ∧ (¬ (z3 ≠ (-1)) → XJ l G bX12_settle Q d 79 [vr x0, vi x1, vi (V (V x0 48) x1), vi (V (V x0 39) (V (V x0 48) x1)), vu, vu, vu, vu] [vi (-1)] S3 V3 mc3 ms3))) ∧ (¬ ((V (V x0 49) x1) ≠ (-1)) → XJ l G bX12_settle Q d 79 [vr x0, vi x1, vi (V (V x0 48) x1), vi (V (V x0 39) (V (V x0 48) x1)), vu, vu, vu, vu] [vi (V (V x0 39) (V (V x0 48) x1))] S V mc ms)) ∧ (¬ (0 ≤ (V (V x0 48) x1)) → -2147483648 ≤ (-1) - (V (V x0 48) x1) ∧ (-1) - (V (V x0 48) x1) ≤ 2147483647 ∧ S.1 (V x0 49) = 20 ∧ x1 < S.2.1 (V x0 49) ∧ ((V (V x0 49) x1) ≠ (-1) → CT l G bX12_enumOf d mc ms [vr x0, vi (V (V x0 49) x1)] S V (fun z9 S9 V9 mc9 ms9 => (z9 ≠ (-1) → S9.1 x0 = 13 ∧ -2147483648 ≤ 12 * (V9 x0 9) ∧ 12 * (V9 x0 9) ≤ 2147483647 ∧ S9.1 (V9 x0 49) = 20 ∧ 0 ≤ x1 ∧ x1 < S9.2.1 (V9 x0 49) ∧ CT l G bX12_enumOf d mc9 ms9 [vr x0, vi (V9 (V9 x0 49) x1)] S9 V9 (fun z12 S12 V12 mc12 ms12 => -2147483648 ≤ (12 * (V9 x0 9)) + z12 ∧ (12 * (V9 x0 9)) + z12 ≤ 2147483647 ∧ XJ l G bX12_settle Q d 79 [vr x0, vi x1, vi (V (V x0 48) x1), vi ((((-1) - (V (V x0 48) x1)).tdiv 12).tdiv 3), vu, vu, vu, vu] [vi ((12 * (V9 x0 9)) + z12)] S12 V12 mc12 ms12)) ∧ (¬ (z9 ≠ (-1)) → XJ l G bX12_settle Q d 79 [vr x0, vi x1, vi (V (V x0 48) x1), vi ((((-1) - (V (V x0 48) x1)).tdiv 12).tdiv 3), vu, vu, vu, vu] [vi (-1)] S9 V9 mc9 ms9))) ∧ (¬ ((V (V x0 49) x1) ≠ (-1)) → XJ l G bX12_settle Q d 79 [vr x0, vi x1, vi (V (V x0 48) x1), vi ((((-1) - (V (V x0 48) x1)).tdiv 12).tdiv 3), vu, vu, vu, vu] [vi ((((-1) - (V (V x0 48) x1)).tdiv 12).tdiv 3)] S V mc ms))) : XJ l G bX12_settle Q d 0 [vr x0, vi x1, vu, vu, vu, vu, vu, vu] [] S V mc ms := by
  refine X_aload_n dX12_settle_0 rfl ?_
  refine X_getfield (ci := 12) (k := 48) (v := vr (V x0 48)) dX12_settle_1 rfl (by decide) kf_RX12_107 rfl h.1 ?_
  refine X_iload_n dX12_settle_4 rfl ?_
  refine X_iaload dX12_settle_5 h.2.1 h.2.2.1 h.2.2.2.1 ?_
  refine X_istore_n dX12_settle_6 (by decide) rfl ?_
  refine X_iload_n dX12_settle_7 rfl ?_
  refine X_if_ge dX12_settle_8 (tgt := 22) rfl (fun c1 => ?_) (fun c1 => ?_)
  · refine X_aload_n dX12_settle_22 rfl ?_
    refine X_getfield (ci := 12) (k := 39) (v := vr (V x0 39)) dX12_settle_23 rfl (by decide) kf_RX12_104 rfl h.1 ?_
    refine X_iload_n dX12_settle_26 rfl ?_
    refine X_iaload dX12_settle_27 (h.2.2.2.2.1 c1).1 (h.2.2.2.2.1 c1).2.1 (h.2.2.2.2.1 c1).2.2.1 ?_
    refine X_istore_n dX12_settle_28 (by decide) rfl ?_
    refine X_aload_n dX12_settle_29 rfl ?_
    refine X_getfield (ci := 12) (k := 49) (v := vr (V x0 49)) dX12_settle_30 rfl (by decide) kf_RX12_110 rfl h.1 ?_
    refine X_iload_n dX12_settle_33 rfl ?_
    refine X_iaload dX12_settle_34 (h.2.2.2.2.1 c1).2.2.2.1 h.2.2.1 (h.2.2.2.2.1 c1).2.2.2.2.1 ?_
    refine X_iconst dX12_settle_35 (by decide) ?_
    refine X_icmp_ne dX12_settle_36 (tgt := 43) rfl (fun c2 => ?_) (fun c2 => ?_)
    · refine X_aload_n dX12_settle_43 rfl ?_
      refine X_aload_n dX12_settle_44 rfl ?_
      refine X_getfield (ci := 12) (k := 49) (v := vr (V x0 49)) dX12_settle_45 rfl (by decide) kf_RX12_110 rfl h.1 ?_
      refine X_iload_n dX12_settle_48 rfl ?_
      refine X_iaload dX12_settle_49 (h.2.2.2.2.1 c1).2.2.2.1 h.2.2.1 (h.2.2.2.2.1 c1).2.2.2.2.1 ?_
      refine X_invV (ci := 12) (as := [vi (V (V x0 49) x1)]) (st := []) okX12_enumOf dX12_settle_50 km_RX12_311 rfl rfl (Nat.le_of_ble_eq_true rfl) rfl rfl h.1 (CT.imp ((h.2.2.2.2.1 c1).2.2.2.2.2.1 c2) (fun z3 S3 V3 mc3 ms3 hc4 => ?_))
      refine X_iconst dX12_settle_53 (by decide) ?_
      refine X_icmp_ne dX12_settle_54 (tgt := 61) rfl (fun c5 => ?_) (fun c5 => ?_)
      · refine X_bipush dX12_settle_61 (by decide) (by decide) ?_
        refine X_aload_n dX12_settle_63 rfl ?_
        refine X_getfield (ci := 12) (k := 9) (v := vi (V3 x0 9)) dX12_settle_64 rfl (by decide) kf_RX12_263 rfl (hc4.1 c5).1 ?_
        refine X_imulN dX12_settle_67 (hc4.1 c5).2.1 (hc4.1 c5).2.2.1 ?_
        refine X_aload_n dX12_settle_68 rfl ?_
        refine X_aload_n dX12_settle_69 rfl ?_
        refine X_getfield (ci := 12) (k := 49) (v := vr (V3 x0 49)) dX12_settle_70 rfl (by decide) kf_RX12_110 rfl (hc4.1 c5).1 ?_
        refine X_iload_n dX12_settle_73 rfl ?_
        refine X_iaload dX12_settle_74 (hc4.1 c5).2.2.2.1 (hc4.1 c5).2.2.2.2.1 (hc4.1 c5).2.2.2.2.2.1 ?_
        refine X_invV (ci := 12) (as := [vi (V3 (V3 x0 49) x1)]) (st := [vi (12 * (V3 x0 9))]) okX12_enumOf dX12_settle_75 km_RX12_311 rfl rfl (Nat.le_of_ble_eq_true rfl) rfl rfl (hc4.1 c5).1 (CT.imp (hc4.1 c5).2.2.2.2.2.2 (fun z6 S6 V6 mc6 ms6 hc7 => ?_))
        refine X_iaddN dX12_settle_78 hc7.1 hc7.2.1 ?_
        exact hc7.2.2
      · refine X_iconst dX12_settle_57 (by decide) ?_
        refine X_goto dX12_settle_58 (tgt := 79) rfl ?_
        exact (hc4.2 c5)
    · refine X_iload_n dX12_settle_39 rfl ?_
      refine X_goto dX12_settle_40 (tgt := 79) rfl ?_
      exact ((h.2.2.2.2.1 c1).2.2.2.2.2.2 c2)
  · refine X_iconst dX12_settle_11 (by decide) ?_
    refine X_iload_n dX12_settle_12 rfl ?_
    refine X_isubN dX12_settle_13 (h.2.2.2.2.2 c1).1 (h.2.2.2.2.2 c1).2.1 ?_
    refine X_bipush dX12_settle_14 (by decide) (by decide) ?_
    refine X_idivP dX12_settle_16 (by decide) ?_
    refine X_iconst dX12_settle_17 (by decide) ?_
    refine X_idivP dX12_settle_18 (by decide) ?_
    refine X_goto dX12_settle_19 (tgt := 28) rfl ?_
    refine X_istore_n dX12_settle_28 (by decide) rfl ?_
    refine X_aload_n dX12_settle_29 rfl ?_
    refine X_getfield (ci := 12) (k := 49) (v := vr (V x0 49)) dX12_settle_30 rfl (by decide) kf_RX12_110 rfl h.1 ?_
    refine X_iload_n dX12_settle_33 rfl ?_
    refine X_iaload dX12_settle_34 (h.2.2.2.2.2 c1).2.2.1 h.2.2.1 (h.2.2.2.2.2 c1).2.2.2.1 ?_
    refine X_iconst dX12_settle_35 (by decide) ?_
    refine X_icmp_ne dX12_settle_36 (tgt := 43) rfl (fun c8 => ?_) (fun c8 => ?_)
    · refine X_aload_n dX12_settle_43 rfl ?_
      refine X_aload_n dX12_settle_44 rfl ?_
      refine X_getfield (ci := 12) (k := 49) (v := vr (V x0 49)) dX12_settle_45 rfl (by decide) kf_RX12_110 rfl h.1 ?_
      refine X_iload_n dX12_settle_48 rfl ?_
      refine X_iaload dX12_settle_49 (h.2.2.2.2.2 c1).2.2.1 h.2.2.1 (h.2.2.2.2.2 c1).2.2.2.1 ?_
      refine X_invV (ci := 12) (as := [vi (V (V x0 49) x1)]) (st := []) okX12_enumOf dX12_settle_50 km_RX12_311 rfl rfl (Nat.le_of_ble_eq_true rfl) rfl rfl h.1 (CT.imp ((h.2.2.2.2.2 c1).2.2.2.2.1 c8) (fun z9 S9 V9 mc9 ms9 hc10 => ?_))
      refine X_iconst dX12_settle_53 (by decide) ?_
      refine X_icmp_ne dX12_settle_54 (tgt := 61) rfl (fun c11 => ?_) (fun c11 => ?_)
      · refine X_bipush dX12_settle_61 (by decide) (by decide) ?_
        refine X_aload_n dX12_settle_63 rfl ?_
        refine X_getfield (ci := 12) (k := 9) (v := vi (V9 x0 9)) dX12_settle_64 rfl (by decide) kf_RX12_263 rfl (hc10.1 c11).1 ?_
        refine X_imulN dX12_settle_67 (hc10.1 c11).2.1 (hc10.1 c11).2.2.1 ?_
        refine X_aload_n dX12_settle_68 rfl ?_
        refine X_aload_n dX12_settle_69 rfl ?_
        refine X_getfield (ci := 12) (k := 49) (v := vr (V9 x0 49)) dX12_settle_70 rfl (by decide) kf_RX12_110 rfl (hc10.1 c11).1 ?_
        refine X_iload_n dX12_settle_73 rfl ?_
        refine X_iaload dX12_settle_74 (hc10.1 c11).2.2.2.1 (hc10.1 c11).2.2.2.2.1 (hc10.1 c11).2.2.2.2.2.1 ?_
        refine X_invV (ci := 12) (as := [vi (V9 (V9 x0 49) x1)]) (st := [vi (12 * (V9 x0 9))]) okX12_enumOf dX12_settle_75 km_RX12_311 rfl rfl (Nat.le_of_ble_eq_true rfl) rfl rfl (hc10.1 c11).1 (CT.imp (hc10.1 c11).2.2.2.2.2.2 (fun z12 S12 V12 mc12 ms12 hc13 => ?_))
        refine X_iaddN dX12_settle_78 hc13.1 hc13.2.1 ?_
        exact hc13.2.2
      · refine X_iconst dX12_settle_57 (by decide) ?_
        refine X_goto dX12_settle_58 (tgt := 79) rfl ?_
        exact (hc10.2 c11)
    · refine X_iload_n dX12_settle_39 rfl ?_
      refine X_goto dX12_settle_40 (tgt := 79) rfl ?_
      exact ((h.2.2.2.2.2 c1).2.2.2.2.2 c8)
set_option maxRecDepth 10000 in
theorem vX12_settle_79 {l : Launch} {G : GT} {Q : Int → Sh → Mem → Prop} {d : Nat} {S : Sh} {V : Mem} {mc ms : Nat} {x0 x1 x2 x3 y0 : Int} (h : (y0 ≠ (-1) → S.1 x0 = 13 ∧ -2147483648 ≤ 24 * y0 ∧ 24 * y0 ≤ 2147483647 ∧ S.1 (V x0 14) = 20 ∧ 0 ≤ y0 ∧ y0 < S.2.1 (V x0 14) ∧ S.1 (V x0 50) = 20 ∧ 0 ≤ x1 ∧ x1 < S.2.1 (V x0 50) ∧ CT l G bX12_among d mc ms [vr x0, vr (V x0 20), vi (24 * y0), vi (V (V x0 14) y0), vi (V (V x0 50) x1)] S V (fun z2 S2 V2 mc2 ms2 => (0 ≤ x2 → S2.1 x0 = 13 ∧ S2.1 (V2 x0 39) = 20 ∧ 0 ≤ x2 ∧ x2 < S2.2.1 (V2 x0 39) ∧ -2147483648 ≤ 4 * y0 ∧ 4 * y0 ≤ 2147483647 ∧ S2.1 (V2 x0 15) = 20 ∧ 0 ≤ y0 ∧ y0 < S2.2.1 (V2 x0 15) ∧ S2.1 (V2 x0 50) = 20 ∧ 0 ≤ x1 ∧ x1 < S2.2.1 (V2 x0 50) ∧ CT l G bX12_among d mc2 ms2 [vr x0, vr (V2 x0 23), vi (4 * y0), vi ((up V2 (V2 x0 39) x2 x3) (V2 x0 15) y0), vi ((up V2 (V2 x0 39) x2 x3) (V2 x0 50) x1)] S2 (up V2 (V2 x0 39) x2 x3) (fun z5 S5 V5 mc5 ms5 => S5.1 x0 = 13 ∧ -2147483648 ≤ 4 * y0 ∧ 4 * y0 ≤ 2147483647 ∧ S5.1 (V5 x0 17) = 20 ∧ 0 ≤ y0 ∧ y0 < S5.2.1 (V5 x0 17) ∧ S5.1 (V5 x0 50) = 20 ∧ 0 ≤ x1 ∧ x1 < S5.2.1 (V5 x0 50) ∧ CT l G bX12_among d mc5 ms5 [vr x0, vr (V5 x0 27), vi (4 * y0), vi (V5 (V5 x0 17) y0), vi (V5 (V5 x0 50) x1)] S5 V5 (fun z7 S7 V7 mc7 ms7 => S7.1 x0 = 13 ∧ S7.1 (V7 x0 35) = 20 ∧ 0 ≤ x2 ∧ x2 < S7.2.1 (V7 x0 35) ∧ ((V7 (V7 x0 35) x2) ≠ 12 → (z2 ≠ (-1) → XJ l G bX12_settle Q d 266 [vr x0, vi x1, vi x2, vi x3, vi y0, vi z2, vi z5, vi z7] [] S7 V7 mc7 ms7) ∧ (¬ (z2 ≠ (-1)) → (z7 ≠ (-1) → XJ l G bX12_settle Q d 266 [vr x0, vi x1, vi x2, vi x3, vi y0, vi z2, vi z5, vi z7] [] S7 V7 mc7 ms7) ∧ (¬ (z7 ≠ (-1)) → S7.1 (V7 x0 50) = 20 ∧ 0 ≤ x1 ∧ x1 < S7.2.1 (V7 x0 50) ∧ CT l G bX12_lacks d mc7 ms7 [vr x0, vi (V7 (V7 x0 50) x1)] S7 V7 (fun z12 S12 V12 mc12 ms12 => Q 0 S12 V12)))) ∧ (¬ ((V7 (V7 x0 35) x2) ≠ 12) → (z5 ≠ (-1) → XJ l G bX12_settle Q d 266 [vr x0, vi x1, vi x2, vi x3, vi y0, vi z2, vi z5, vi z7] [] S7 V7 mc7 ms7) ∧ (¬ (z5 ≠ (-1)) → S7.1 (V7 x0 50) = 20 ∧ 0 ≤ x1 ∧ x1 < S7.2.1 (V7 x0 50) ∧ CT l G bX12_lacks d mc7 ms7 [vr x0, vi (V7 (V7 x0 50) x1)] S7 V7 (fun z15 S15 V15 mc15 ms15 => Q 0 S15 V15)))))) ∧ (¬ (0 ≤ x2) → (z2 ≠ (-1) → S2.1 x0 = 13 ∧ -2147483648 ≤ (-1) - x2 ∧ (-1) - x2 ≤ 2147483647 ∧ S2.1 (V2 x0 32) = 20 ∧ 0 ≤ ((-1) - x2) ∧ ((-1) - x2) < S2.2.1 (V2 x0 32) ∧ Q 0 S2 (up V2 (V2 x0 32) ((-1) - x2) z2)) ∧ (¬ (z2 ≠ (-1)) → S2.1 x0 = 13 ∧ S2.1 (V2 x0 50) = 20 ∧ 0 ≤ x1 ∧ x1 < S2.2.1 (V2 x0 50) ∧ CT l G bX12_lacks d mc2 ms2 [vr x0, vi (V2 (V2 x0 50) x1)] S2 V2 (fun z18 S18 V18 mc18 ms18 => Q 0 S18 V18))))) ∧ (¬ (y0 ≠ (-1)) → S.1 x0 = 13 ∧ S.1 (V x0 49) = 20 ∧ 0 ≤ x1 ∧ x1 < S.2.1 (V x0 49) ∧ CT l G bX12_lacks d mc ms [vr x0, vi (V (V x0 49) x1)] S V (fun z20 S20 V20 mc20 ms20 => Q 0 S20 V20))) : XJ l G bX12_settle Q d 79 [vr x0, vi x1, vi x2, vi x3, vu, vu, vu, vu] [vi y0] S V mc ms := by
  refine X_istore dX12_settle_79 (by decide) rfl ?_
  refine X_iload dX12_settle_81 rfl ?_
  refine X_iconst dX12_settle_83 (by decide) ?_
  refine X_icmp_ne dX12_settle_84 (tgt := 98) rfl (fun c1 => ?_) (fun c1 => ?_)
  · refine X_aload_n dX12_settle_98 rfl ?_
    refine X_aload_n dX12_settle_99 rfl ?_
    refine X_getfield (ci := 12) (k := 20) (v := vr (V x0 20)) dX12_settle_100 rfl (by decide) kf_RX12_47 rfl (h.1 c1).1 ?_
    refine X_bipush dX12_settle_103 (by decide) (by decide) ?_
    refine X_iload dX12_settle_105 rfl ?_
    refine X_imulN dX12_settle_107 (h.1 c1).2.1 (h.1 c1).2.2.1 ?_
    refine X_aload_n dX12_settle_108 rfl ?_
    refine X_getfield (ci := 12) (k := 14) (v := vr (V x0 14)) dX12_settle_109 rfl (by decide) kf_RX12_29 rfl (h.1 c1).1 ?_
    refine X_iload dX12_settle_112 rfl ?_
    refine X_iaload dX12_settle_114 (h.1 c1).2.2.2.1 (h.1 c1).2.2.2.2.1 (h.1 c1).2.2.2.2.2.1 ?_
    refine X_aload_n dX12_settle_115 rfl ?_
    refine X_getfield (ci := 12) (k := 50) (v := vr (V x0 50)) dX12_settle_116 rfl (by decide) kf_RX12_113 rfl (h.1 c1).1 ?_
    refine X_iload_n dX12_settle_119 rfl ?_
    refine X_iaload dX12_settle_120 (h.1 c1).2.2.2.2.2.2.1 (h.1 c1).2.2.2.2.2.2.2.1 (h.1 c1).2.2.2.2.2.2.2.2.1 ?_
    refine X_invV (ci := 12) (as := [vr (V x0 20), vi (24 * y0), vi (V (V x0 14) y0), vi (V (V x0 50) x1)]) (st := []) okX12_among dX12_settle_121 km_RX12_388 rfl rfl (Nat.le_of_ble_eq_true rfl) rfl rfl (h.1 c1).1 (CT.imp (h.1 c1).2.2.2.2.2.2.2.2.2 (fun z2 S2 V2 mc2 ms2 hc3 => ?_))
    refine X_istore dX12_settle_124 (by decide) rfl ?_
    refine X_iload_n dX12_settle_126 rfl ?_
    refine X_if_ge dX12_settle_127 (tgt := 160) rfl (fun c4 => ?_) (fun c4 => ?_)
    · refine X_aload_n dX12_settle_160 rfl ?_
      refine X_getfield (ci := 12) (k := 39) (v := vr (V2 x0 39)) dX12_settle_161 rfl (by decide) kf_RX12_104 rfl (hc3.1 c4).1 ?_
      refine X_iload_n dX12_settle_164 rfl ?_
      refine X_iload_n dX12_settle_165 rfl ?_
      refine X_iastore dX12_settle_166 (hc3.1 c4).2.1 (hc3.1 c4).2.2.1 (hc3.1 c4).2.2.2.1 ?_
      refine X_aload_n dX12_settle_167 rfl ?_
      refine X_aload_n dX12_settle_168 rfl ?_
      refine X_getfield (ci := 12) (k := 23) (v := vr (V2 x0 23)) dX12_settle_169 rfl (by decide) kf_RX12_56 (congrArg vr (up_ne (Or.inl (tag_ne (hc3.1 c4).1 (hc3.1 c4).2.1 (by decide))))) (hc3.1 c4).1 ?_
      refine X_iconst dX12_settle_172 (by decide) ?_
      refine X_iload dX12_settle_173 rfl ?_
      refine X_imulN dX12_settle_175 (hc3.1 c4).2.2.2.2.1 (hc3.1 c4).2.2.2.2.2.1 ?_
      refine X_aload_n dX12_settle_176 rfl ?_
      refine X_getfield (ci := 12) (k := 15) (v := vr (V2 x0 15)) dX12_settle_177 rfl (by decide) kf_RX12_32 (congrArg vr (up_ne (Or.inl (tag_ne (hc3.1 c4).1 (hc3.1 c4).2.1 (by decide))))) (hc3.1 c4).1 ?_
      refine X_iload dX12_settle_180 rfl ?_
      refine X_iaload dX12_settle_182 (hc3.1 c4).2.2.2.2.2.2.1 (hc3.1 c4).2.2.2.2.2.2.2.1 (hc3.1 c4).2.2.2.2.2.2.2.2.1 ?_
      refine X_aload_n dX12_settle_183 rfl ?_
      refine X_getfield (ci := 12) (k := 50) (v := vr (V2 x0 50)) dX12_settle_184 rfl (by decide) kf_RX12_113 (congrArg vr (up_ne (Or.inl (tag_ne (hc3.1 c4).1 (hc3.1 c4).2.1 (by decide))))) (hc3.1 c4).1 ?_
      refine X_iload_n dX12_settle_187 rfl ?_
      refine X_iaload dX12_settle_188 (hc3.1 c4).2.2.2.2.2.2.2.2.2.1 (hc3.1 c4).2.2.2.2.2.2.2.2.2.2.1 (hc3.1 c4).2.2.2.2.2.2.2.2.2.2.2.1 ?_
      refine X_invV (ci := 12) (as := [vr (V2 x0 23), vi (4 * y0), vi ((up V2 (V2 x0 39) x2 x3) (V2 x0 15) y0), vi ((up V2 (V2 x0 39) x2 x3) (V2 x0 50) x1)]) (st := []) okX12_among dX12_settle_189 km_RX12_388 rfl rfl (Nat.le_of_ble_eq_true rfl) rfl rfl (hc3.1 c4).1 (CT.imp (hc3.1 c4).2.2.2.2.2.2.2.2.2.2.2.2 (fun z5 S5 V5 mc5 ms5 hc6 => ?_))
      refine X_istore dX12_settle_192 (by decide) rfl ?_
      refine X_aload_n dX12_settle_194 rfl ?_
      refine X_aload_n dX12_settle_195 rfl ?_
      refine X_getfield (ci := 12) (k := 27) (v := vr (V5 x0 27)) dX12_settle_196 rfl (by decide) kf_RX12_68 rfl hc6.1 ?_
      refine X_iconst dX12_settle_199 (by decide) ?_
      refine X_iload dX12_settle_200 rfl ?_
      refine X_imulN dX12_settle_202 hc6.2.1 hc6.2.2.1 ?_
      refine X_aload_n dX12_settle_203 rfl ?_
      refine X_getfield (ci := 12) (k := 17) (v := vr (V5 x0 17)) dX12_settle_204 rfl (by decide) kf_RX12_38 rfl hc6.1 ?_
      refine X_iload dX12_settle_207 rfl ?_
      refine X_iaload dX12_settle_209 hc6.2.2.2.1 hc6.2.2.2.2.1 hc6.2.2.2.2.2.1 ?_
      refine X_aload_n dX12_settle_210 rfl ?_
      refine X_getfield (ci := 12) (k := 50) (v := vr (V5 x0 50)) dX12_settle_211 rfl (by decide) kf_RX12_113 rfl hc6.1 ?_
      refine X_iload_n dX12_settle_214 rfl ?_
      refine X_iaload dX12_settle_215 hc6.2.2.2.2.2.2.1 hc6.2.2.2.2.2.2.2.1 hc6.2.2.2.2.2.2.2.2.1 ?_
      refine X_invV (ci := 12) (as := [vr (V5 x0 27), vi (4 * y0), vi (V5 (V5 x0 17) y0), vi (V5 (V5 x0 50) x1)]) (st := []) okX12_among dX12_settle_216 km_RX12_388 rfl rfl (Nat.le_of_ble_eq_true rfl) rfl rfl hc6.1 (CT.imp hc6.2.2.2.2.2.2.2.2.2 (fun z7 S7 V7 mc7 ms7 hc8 => ?_))
      refine X_istore dX12_settle_219 (by decide) rfl ?_
      refine X_aload_n dX12_settle_221 rfl ?_
      refine X_getfield (ci := 12) (k := 35) (v := vr (V7 x0 35)) dX12_settle_222 rfl (by decide) kf_RX12_92 rfl hc8.1 ?_
      refine X_iload_n dX12_settle_225 rfl ?_
      refine X_iaload dX12_settle_226 hc8.2.1 hc8.2.2.1 hc8.2.2.2.1 ?_
      refine X_bipush dX12_settle_227 (by decide) (by decide) ?_
      refine X_icmp_ne dX12_settle_229 (tgt := 241) rfl (fun c9 => ?_) (fun c9 => ?_)
      · refine X_iload dX12_settle_241 rfl ?_
        refine X_iconst dX12_settle_243 (by decide) ?_
        refine X_icmp_ne dX12_settle_244 (tgt := 266) rfl (fun c10 => ?_) (fun c10 => ?_)
        · exact ((hc8.2.2.2.2.1 c9).1 c10)
        · refine X_iload dX12_settle_247 rfl ?_
          refine X_iconst dX12_settle_249 (by decide) ?_
          refine X_icmp_ne dX12_settle_250 (tgt := 266) rfl (fun c11 => ?_) (fun c11 => ?_)
          · exact (((hc8.2.2.2.2.1 c9).2 c10).1 c11)
          · refine X_aload_n dX12_settle_253 rfl ?_
            refine X_aload_n dX12_settle_254 rfl ?_
            refine X_getfield (ci := 12) (k := 50) (v := vr (V7 x0 50)) dX12_settle_255 rfl (by decide) kf_RX12_113 rfl hc8.1 ?_
            refine X_iload_n dX12_settle_258 rfl ?_
            refine X_iaload dX12_settle_259 (((hc8.2.2.2.2.1 c9).2 c10).2 c11).1 (((hc8.2.2.2.2.1 c9).2 c10).2 c11).2.1 (((hc8.2.2.2.2.1 c9).2 c10).2 c11).2.2.1 ?_
            refine X_invV (ci := 12) (as := [vi (V7 (V7 x0 50) x1)]) (st := []) okX12_lacks dX12_settle_260 km_RX12_385 rfl rfl (Nat.le_of_ble_eq_true rfl) rfl rfl hc8.1 (CT.imp (((hc8.2.2.2.2.1 c9).2 c10).2 c11).2.2.2 (fun z12 S12 V12 mc12 ms12 hc13 => ?_))
            refine X_goto dX12_settle_263 (tgt := 342) rfl ?_
            exact X_ret (z := 0) dX12_settle_342 rfl (fun _ => trivial) hc13
      · refine X_iload dX12_settle_232 rfl ?_
        refine X_iconst dX12_settle_234 (by decide) ?_
        refine X_icmp_ne dX12_settle_235 (tgt := 266) rfl (fun c14 => ?_) (fun c14 => ?_)
        · exact ((hc8.2.2.2.2.2 c9).1 c14)
        · refine X_goto dX12_settle_238 (tgt := 253) rfl ?_
          refine X_aload_n dX12_settle_253 rfl ?_
          refine X_aload_n dX12_settle_254 rfl ?_
          refine X_getfield (ci := 12) (k := 50) (v := vr (V7 x0 50)) dX12_settle_255 rfl (by decide) kf_RX12_113 rfl hc8.1 ?_
          refine X_iload_n dX12_settle_258 rfl ?_
          refine X_iaload dX12_settle_259 ((hc8.2.2.2.2.2 c9).2 c14).1 ((hc8.2.2.2.2.2 c9).2 c14).2.1 ((hc8.2.2.2.2.2 c9).2 c14).2.2.1 ?_
          refine X_invV (ci := 12) (as := [vi (V7 (V7 x0 50) x1)]) (st := []) okX12_lacks dX12_settle_260 km_RX12_385 rfl rfl (Nat.le_of_ble_eq_true rfl) rfl rfl hc8.1 (CT.imp ((hc8.2.2.2.2.2 c9).2 c14).2.2.2 (fun z15 S15 V15 mc15 ms15 hc16 => ?_))
          refine X_goto dX12_settle_263 (tgt := 342) rfl ?_
          exact X_ret (z := 0) dX12_settle_342 rfl (fun _ => trivial) hc16
    · refine X_iload dX12_settle_130 rfl ?_
      refine X_iconst dX12_settle_132 (by decide) ?_
      refine X_icmp_ne dX12_settle_133 (tgt := 149) rfl (fun c17 => ?_) (fun c17 => ?_)
      · refine X_aload_n dX12_settle_149 rfl ?_
        refine X_getfield (ci := 12) (k := 32) (v := vr (V2 x0 32)) dX12_settle_150 rfl (by decide) kf_RX12_83 rfl ((hc3.2 c4).1 c17).1 ?_
        refine X_iconst dX12_settle_153 (by decide) ?_
        refine X_iload_n dX12_settle_154 rfl ?_
        refine X_isubN dX12_settle_155 ((hc3.2 c4).1 c17).2.1 ((hc3.2 c4).1 c17).2.2.1 ?_
        refine X_iload dX12_settle_156 rfl ?_
        refine X_iastore dX12_settle_158 ((hc3.2 c4).1 c17).2.2.2.1 ((hc3.2 c4).1 c17).2.2.2.2.1 ((hc3.2 c4).1 c17).2.2.2.2.2.1 ?_
        exact X_ret (z := 0) dX12_settle_159 rfl (fun _ => trivial) ((hc3.2 c4).1 c17).2.2.2.2.2.2
      · refine X_aload_n dX12_settle_136 rfl ?_
        refine X_aload_n dX12_settle_137 rfl ?_
        refine X_getfield (ci := 12) (k := 50) (v := vr (V2 x0 50)) dX12_settle_138 rfl (by decide) kf_RX12_113 rfl ((hc3.2 c4).2 c17).1 ?_
        refine X_iload_n dX12_settle_141 rfl ?_
        refine X_iaload dX12_settle_142 ((hc3.2 c4).2 c17).2.1 ((hc3.2 c4).2 c17).2.2.1 ((hc3.2 c4).2 c17).2.2.2.1 ?_
        refine X_invV (ci := 12) (as := [vi (V2 (V2 x0 50) x1)]) (st := []) okX12_lacks dX12_settle_143 km_RX12_385 rfl rfl (Nat.le_of_ble_eq_true rfl) rfl rfl ((hc3.2 c4).2 c17).1 (CT.imp ((hc3.2 c4).2 c17).2.2.2.2 (fun z18 S18 V18 mc18 ms18 hc19 => ?_))
        refine X_goto dX12_settle_146 (tgt := 159) rfl ?_
        exact X_ret (z := 0) dX12_settle_159 rfl (fun _ => trivial) hc19
  · refine X_aload_n dX12_settle_87 rfl ?_
    refine X_aload_n dX12_settle_88 rfl ?_
    refine X_getfield (ci := 12) (k := 49) (v := vr (V x0 49)) dX12_settle_89 rfl (by decide) kf_RX12_110 rfl (h.2 c1).1 ?_
    refine X_iload_n dX12_settle_92 rfl ?_
    refine X_iaload dX12_settle_93 (h.2 c1).2.1 (h.2 c1).2.2.1 (h.2 c1).2.2.2.1 ?_
    refine X_invV (ci := 12) (as := [vi (V (V x0 49) x1)]) (st := []) okX12_lacks dX12_settle_94 km_RX12_385 rfl rfl (Nat.le_of_ble_eq_true rfl) rfl rfl (h.2 c1).1 (CT.imp (h.2 c1).2.2.2.2 (fun z20 S20 V20 mc20 ms20 hc21 => ?_))
    exact X_ret (z := 0) dX12_settle_97 rfl (fun _ => trivial) hc21
set_option maxRecDepth 10000 in
theorem vX12_settle_266 {l : Launch} {G : GT} {Q : Int → Sh → Mem → Prop} {d : Nat} {S : Sh} {V : Mem} {mc ms : Nat} {x0 x1 x2 x3 x4 x5 x6 x7 : Int} (h : S.1 x0 = 13 ∧ S.1 (V x0 35) = 20 ∧ 0 ≤ x2 ∧ x2 < S.2.1 (V x0 35) ∧ ((V (V x0 35) x2) ≠ 12 → (x5 = (-1) → (x5 = (-1) → -2147483648 ≤ 4 * x4 ∧ 4 * x4 ≤ 2147483647 ∧ -2147483648 ≤ (4 * x4) + x7 ∧ (4 * x4) + x7 ≤ 2147483647 ∧ S.1 (V x0 36) = 20 ∧ x2 < S.2.1 (V x0 36) ∧ Q 0 S (up (up V (V x0 35) x2 11) (V x0 36) x2 ((4 * x4) + x7))) ∧ (¬ (x5 = (-1)) → -2147483648 ≤ 24 * x4 ∧ 24 * x4 ≤ 2147483647 ∧ -2147483648 ≤ (24 * x4) + x5 ∧ (24 * x4) + x5 ≤ 2147483647 ∧ S.1 (V x0 36) = 20 ∧ x2 < S.2.1 (V x0 36) ∧ Q 0 S (up (up V (V x0 35) x2 11) (V x0 36) x2 ((24 * x4) + x5)))) ∧ (¬ (x5 = (-1)) → (x5 = (-1) → -2147483648 ≤ 4 * x4 ∧ 4 * x4 ≤ 2147483647 ∧ -2147483648 ≤ (4 * x4) + x7 ∧ (4 * x4) + x7 ≤ 2147483647 ∧ S.1 (V x0 36) = 20 ∧ x2 < S.2.1 (V x0 36) ∧ Q 0 S (up (up V (V x0 35) x2 10) (V x0 36) x2 ((4 * x4) + x7))) ∧ (¬ (x5 = (-1)) → -2147483648 ≤ 24 * x4 ∧ 24 * x4 ≤ 2147483647 ∧ -2147483648 ≤ (24 * x4) + x5 ∧ (24 * x4) + x5 ≤ 2147483647 ∧ S.1 (V x0 36) = 20 ∧ x2 < S.2.1 (V x0 36) ∧ Q 0 S (up (up V (V x0 35) x2 10) (V x0 36) x2 ((24 * x4) + x5))))) ∧ (¬ ((V (V x0 35) x2) ≠ 12) → -2147483648 ≤ 4 * x4 ∧ 4 * x4 ≤ 2147483647 ∧ -2147483648 ≤ (4 * x4) + x6 ∧ (4 * x4) + x6 ≤ 2147483647 ∧ S.1 (V x0 36) = 20 ∧ x2 < S.2.1 (V x0 36) ∧ Q 0 S (up V (V x0 36) x2 ((4 * x4) + x6)))) : XJ l G bX12_settle Q d 266 [vr x0, vi x1, vi x2, vi x3, vi x4, vi x5, vi x6, vi x7] [] S V mc ms := by
  refine X_aload_n dX12_settle_266 rfl ?_
  refine X_getfield (ci := 12) (k := 35) (v := vr (V x0 35)) dX12_settle_267 rfl (by decide) kf_RX12_92 rfl h.1 ?_
  refine X_iload_n dX12_settle_270 rfl ?_
  refine X_iaload dX12_settle_271 h.2.1 h.2.2.1 h.2.2.2.1 ?_
  refine X_bipush dX12_settle_272 (by decide) (by decide) ?_
  refine X_icmp_ne dX12_settle_274 (tgt := 293) rfl (fun c1 => ?_) (fun c1 => ?_)
  · refine X_aload_n dX12_settle_293 rfl ?_
    refine X_getfield (ci := 12) (k := 35) (v := vr (V x0 35)) dX12_settle_294 rfl (by decide) kf_RX12_92 rfl h.1 ?_
    refine X_iload_n dX12_settle_297 rfl ?_
    refine X_iload dX12_settle_298 rfl ?_
    refine X_iconst dX12_settle_300 (by decide) ?_
    refine X_icmp_eq dX12_settle_301 (tgt := 309) rfl (fun c2 => ?_) (fun c2 => ?_)
    · refine X_bipush dX12_settle_309 (by decide) (by decide) ?_
      refine X_iastore dX12_settle_311 h.2.1 h.2.2.1 h.2.2.2.1 ?_
      refine X_aload_n dX12_settle_312 rfl ?_
      refine X_getfield (ci := 12) (k := 36) (v := vr (V x0 36)) dX12_settle_313 rfl (by decide) kf_RX12_95 (congrArg vr (up_ne (Or.inl (tag_ne h.1 h.2.1 (by decide))))) h.1 ?_
      refine X_iload_n dX12_settle_316 rfl ?_
      refine X_iload dX12_settle_317 rfl ?_
      refine X_iconst dX12_settle_319 (by decide) ?_
      refine X_icmp_eq dX12_settle_320 (tgt := 334) rfl (fun c3 => ?_) (fun c3 => ?_)
      · refine X_iconst dX12_settle_334 (by decide) ?_
        refine X_iload dX12_settle_335 rfl ?_
        refine X_imulN dX12_settle_337 (((h.2.2.2.2.1 c1).1 c2).1 c3).1 (((h.2.2.2.2.1 c1).1 c2).1 c3).2.1 ?_
        refine X_iload dX12_settle_338 rfl ?_
        refine X_iaddN dX12_settle_340 (((h.2.2.2.2.1 c1).1 c2).1 c3).2.2.1 (((h.2.2.2.2.1 c1).1 c2).1 c3).2.2.2.1 ?_
        refine X_iastore dX12_settle_341 (((h.2.2.2.2.1 c1).1 c2).1 c3).2.2.2.2.1 h.2.2.1 (((h.2.2.2.2.1 c1).1 c2).1 c3).2.2.2.2.2.1 ?_
        exact X_ret (z := 0) dX12_settle_342 rfl (fun _ => trivial) (((h.2.2.2.2.1 c1).1 c2).1 c3).2.2.2.2.2.2
      · refine X_bipush dX12_settle_323 (by decide) (by decide) ?_
        refine X_iload dX12_settle_325 rfl ?_
        refine X_imulN dX12_settle_327 (((h.2.2.2.2.1 c1).1 c2).2 c3).1 (((h.2.2.2.2.1 c1).1 c2).2 c3).2.1 ?_
        refine X_iload dX12_settle_328 rfl ?_
        refine X_iaddN dX12_settle_330 (((h.2.2.2.2.1 c1).1 c2).2 c3).2.2.1 (((h.2.2.2.2.1 c1).1 c2).2 c3).2.2.2.1 ?_
        refine X_goto dX12_settle_331 (tgt := 341) rfl ?_
        refine X_iastore dX12_settle_341 (((h.2.2.2.2.1 c1).1 c2).2 c3).2.2.2.2.1 h.2.2.1 (((h.2.2.2.2.1 c1).1 c2).2 c3).2.2.2.2.2.1 ?_
        exact X_ret (z := 0) dX12_settle_342 rfl (fun _ => trivial) (((h.2.2.2.2.1 c1).1 c2).2 c3).2.2.2.2.2.2
    · refine X_bipush dX12_settle_304 (by decide) (by decide) ?_
      refine X_goto dX12_settle_306 (tgt := 311) rfl ?_
      refine X_iastore dX12_settle_311 h.2.1 h.2.2.1 h.2.2.2.1 ?_
      refine X_aload_n dX12_settle_312 rfl ?_
      refine X_getfield (ci := 12) (k := 36) (v := vr (V x0 36)) dX12_settle_313 rfl (by decide) kf_RX12_95 (congrArg vr (up_ne (Or.inl (tag_ne h.1 h.2.1 (by decide))))) h.1 ?_
      refine X_iload_n dX12_settle_316 rfl ?_
      refine X_iload dX12_settle_317 rfl ?_
      refine X_iconst dX12_settle_319 (by decide) ?_
      refine X_icmp_eq dX12_settle_320 (tgt := 334) rfl (fun c4 => ?_) (fun c4 => ?_)
      · refine X_iconst dX12_settle_334 (by decide) ?_
        refine X_iload dX12_settle_335 rfl ?_
        refine X_imulN dX12_settle_337 (((h.2.2.2.2.1 c1).2 c2).1 c4).1 (((h.2.2.2.2.1 c1).2 c2).1 c4).2.1 ?_
        refine X_iload dX12_settle_338 rfl ?_
        refine X_iaddN dX12_settle_340 (((h.2.2.2.2.1 c1).2 c2).1 c4).2.2.1 (((h.2.2.2.2.1 c1).2 c2).1 c4).2.2.2.1 ?_
        refine X_iastore dX12_settle_341 (((h.2.2.2.2.1 c1).2 c2).1 c4).2.2.2.2.1 h.2.2.1 (((h.2.2.2.2.1 c1).2 c2).1 c4).2.2.2.2.2.1 ?_
        exact X_ret (z := 0) dX12_settle_342 rfl (fun _ => trivial) (((h.2.2.2.2.1 c1).2 c2).1 c4).2.2.2.2.2.2
      · refine X_bipush dX12_settle_323 (by decide) (by decide) ?_
        refine X_iload dX12_settle_325 rfl ?_
        refine X_imulN dX12_settle_327 (((h.2.2.2.2.1 c1).2 c2).2 c4).1 (((h.2.2.2.2.1 c1).2 c2).2 c4).2.1 ?_
        refine X_iload dX12_settle_328 rfl ?_
        refine X_iaddN dX12_settle_330 (((h.2.2.2.2.1 c1).2 c2).2 c4).2.2.1 (((h.2.2.2.2.1 c1).2 c2).2 c4).2.2.2.1 ?_
        refine X_goto dX12_settle_331 (tgt := 341) rfl ?_
        refine X_iastore dX12_settle_341 (((h.2.2.2.2.1 c1).2 c2).2 c4).2.2.2.2.1 h.2.2.1 (((h.2.2.2.2.1 c1).2 c2).2 c4).2.2.2.2.2.1 ?_
        exact X_ret (z := 0) dX12_settle_342 rfl (fun _ => trivial) (((h.2.2.2.2.1 c1).2 c2).2 c4).2.2.2.2.2.2
  · refine X_aload_n dX12_settle_277 rfl ?_
    refine X_getfield (ci := 12) (k := 36) (v := vr (V x0 36)) dX12_settle_278 rfl (by decide) kf_RX12_95 rfl h.1 ?_
    refine X_iload_n dX12_settle_281 rfl ?_
    refine X_iconst dX12_settle_282 (by decide) ?_
    refine X_iload dX12_settle_283 rfl ?_
    refine X_imulN dX12_settle_285 (h.2.2.2.2.2 c1).1 (h.2.2.2.2.2 c1).2.1 ?_
    refine X_iload dX12_settle_286 rfl ?_
    refine X_iaddN dX12_settle_288 (h.2.2.2.2.2 c1).2.2.1 (h.2.2.2.2.2 c1).2.2.2.1 ?_
    refine X_iastore dX12_settle_289 (h.2.2.2.2.2 c1).2.2.2.2.1 h.2.2.1 (h.2.2.2.2.2 c1).2.2.2.2.2.1 ?_
    refine X_goto dX12_settle_290 (tgt := 342) rfl ?_
    exact X_ret (z := 0) dX12_settle_342 rfl (fun _ => trivial) (h.2.2.2.2.2 c1).2.2.2.2.2.2
theorem qX12_settle {l : Launch} {G : GT} {Q : Int → Sh → Mem → Prop} {d : Nat} {S : Sh} {V : Mem} {mc ms : Nat} {x0 x1 : Int} (h : 0 ≤ x0 → inI x1 → XJ l G bX12_settle Q d 0 [vr x0, vi x1, vu, vu, vu, vu, vu, vu] [] S V mc ms) : Ct l G bX12_settle Q d mc ms [vr x0, vi x1] S V := Ct.of okX12_settle.1 trivial (Nat.le_of_ble_eq_true rfl) (fun hv => h (hv _ (List.mem_of_getElem? (i := 0) rfl)) (hv _ (List.mem_of_getElem? (i := 1) rfl)))
set_option maxRecDepth 10000 in
theorem vX12_lacks_0 {l : Launch} {G : GT} {Q : Int → Sh → Mem → Prop} {d : Nat} {S : Sh} {V : Mem} {mc ms : Nat} {x0 x1 : Int} (h : S.1 x0 = 13 ∧ -2147483648 ≤ 3000 * (V x0 9) ∧ 3000 * (V x0 9) ≤ 2147483647 ∧ -2147483648 ≤ (x1.tdiv 16) - (3000 * (V x0 9)) ∧ (x1.tdiv 16) - (3000 * (V x0 9)) ≤ 2147483647 ∧ Q 0 S (up (up V x0 46 4) x0 47 ((x1.tdiv 16) - (3000 * (V x0 9))))) : XJ l G bX12_lacks Q d 0 [vr x0, vi x1] [] S V mc ms := by
  refine X_aload_n dX12_lacks_0 rfl ?_
  refine X_iconst dX12_lacks_1 (by decide) ?_
  refine X_putfield (ci := 12) (k := 46) (z := 4) dX12_lacks_2 rfl (by decide) kf_RX12_275 (Or.inl rfl) (Or.inl rfl) rfl (fun hv => hv) h.1 ?_
  refine X_aload_n dX12_lacks_5 rfl ?_
  refine X_iload_n dX12_lacks_6 rfl ?_
  refine X_bipush dX12_lacks_7 (by decide) (by decide) ?_
  refine X_idivP dX12_lacks_9 (by decide) ?_
  refine X_sipush dX12_lacks_10 (by decide) (by decide) ?_
  refine X_aload_n dX12_lacks_13 rfl ?_
  refine X_getfield (ci := 12) (k := 9) (v := vi (V x0 9)) dX12_lacks_14 rfl (by decide) kf_RX12_263 (congrArg vi (up_ne (Or.inr (by decide)))) h.1 ?_
  refine X_imulN dX12_lacks_17 h.2.1 h.2.2.1 ?_
  refine X_isubN dX12_lacks_18 h.2.2.2.1 h.2.2.2.2.1 ?_
  refine X_putfield (ci := 12) (k := 47) (z := ((x1.tdiv 16) - (3000 * (V x0 9)))) dX12_lacks_19 rfl (by decide) kf_RX12_278 (Or.inl rfl) (Or.inl rfl) rfl (fun hv => hv) h.1 ?_
  exact X_ret (z := 0) dX12_lacks_22 rfl (fun _ => trivial) h.2.2.2.2.2
theorem qX12_lacks {l : Launch} {G : GT} {Q : Int → Sh → Mem → Prop} {d : Nat} {S : Sh} {V : Mem} {mc ms : Nat} {x0 x1 : Int} (h : 0 ≤ x0 → inI x1 → XJ l G bX12_lacks Q d 0 [vr x0, vi x1] [] S V mc ms) : Ct l G bX12_lacks Q d mc ms [vr x0, vi x1] S V := Ct.of okX12_lacks.1 trivial (Nat.le_of_ble_eq_true rfl) (fun hv => h (hv _ (List.mem_of_getElem? (i := 0) rfl)) (hv _ (List.mem_of_getElem? (i := 1) rfl)))
set_option maxRecDepth 10000 in
theorem vX12_among_0 {l : Launch} {G : GT} {Q : Int → Sh → Mem → Prop} {d : Nat} {S : Sh} {V : Mem} {mc ms : Nat} {x0 x1 x2 x3 x4 : Int} (h : XJ l G bX12_among Q d 3 [vr x0, vr x1, vi x2, vi x3, vi x4, vi 0] [] S V mc ms) : XJ l G bX12_among Q d 0 [vr x0, vr x1, vi x2, vi x3, vi x4, vu] [] S V mc ms := by
  refine X_iconst dX12_among_0 (by decide) ?_
  refine X_istore dX12_among_1 (by decide) rfl ?_
  exact h
set_option maxRecDepth 10000 in
theorem vX12_among_3 {l : Launch} {G : GT} {Q : Int → Sh → Mem → Prop} {d : Nat} {S : Sh} {V : Mem} {mc ms : Nat} {x0 x1 x2 x3 x4 x5 : Int} (h : (x3 ≤ x5 → Q (-1) S V) ∧ (¬ (x3 ≤ x5) → -2147483648 ≤ x2 + x5 ∧ x2 + x5 ≤ 2147483647 ∧ S.1 x1 = 20 ∧ 0 ≤ (x2 + x5) ∧ (x2 + x5) < S.2.1 x1 ∧ S.1 x0 = 13 ∧ CT l G bX12_isSame d mc ms [vr x0, vi (V x1 (x2 + x5)), vi x4] S V (fun z2 S2 V2 mc2 ms2 => (z2 = 0 → -2147483648 ≤ x5 + 1 ∧ x5 + 1 ≤ 2147483647 ∧ XJ l G bX12_among Q d 3 [vr x0, vr x1, vi x2, vi x3, vi x4, vi (x5 + 1)] [] S2 V2 mc2 ms2) ∧ (¬ (z2 = 0) → Q x5 S2 V2)))) : XJ l G bX12_among Q d 3 [vr x0, vr x1, vi x2, vi x3, vi x4, vi x5] [] S V mc ms := by
  refine X_iload dX12_among_3 rfl ?_
  refine X_iload_n dX12_among_5 rfl ?_
  refine X_icmp_ge dX12_among_6 (tgt := 33) rfl (fun c1 => ?_) (fun c1 => ?_)
  · refine X_iconst dX12_among_33 (by decide) ?_
    exact X_ret (z := (-1)) dX12_among_34 rfl (fun hv => vok_h hv) (h.1 c1)
  · refine X_aload_n dX12_among_9 rfl ?_
    refine X_aload_n dX12_among_10 rfl ?_
    refine X_iload_n dX12_among_11 rfl ?_
    refine X_iload dX12_among_12 rfl ?_
    refine X_iaddN dX12_among_14 (h.2 c1).1 (h.2 c1).2.1 ?_
    refine X_iaload dX12_among_15 (h.2 c1).2.2.1 (h.2 c1).2.2.2.1 (h.2 c1).2.2.2.2.1 ?_
    refine X_iload dX12_among_16 rfl ?_
    refine X_invV (ci := 12) (as := [vi (V x1 (x2 + x5)), vi x4]) (st := []) okX12_isSame dX12_among_18 km_RX12_297 rfl rfl (Nat.le_of_ble_eq_true rfl) rfl rfl (h.2 c1).2.2.2.2.2.1 (CT.imp (h.2 c1).2.2.2.2.2.2 (fun z2 S2 V2 mc2 ms2 hc3 => ?_))
    refine X_if_eq dX12_among_21 (tgt := 27) rfl (fun c4 => ?_) (fun c4 => ?_)
    · refine X_iincN dX12_among_27 rfl (by decide) rfl (e := x5 + 1) rfl (hc3.1 c4).1 (hc3.1 c4).2.1 ?_
      refine X_goto dX12_among_30 (tgt := 3) rfl ?_
      exact (hc3.1 c4).2.2
    · refine X_iload dX12_among_24 rfl ?_
      exact X_ret (z := x5) dX12_among_26 rfl (fun hv => vok_h hv) (hc3.2 c4)
theorem qX12_among {l : Launch} {G : GT} {Q : Int → Sh → Mem → Prop} {d : Nat} {S : Sh} {V : Mem} {mc ms : Nat} {x0 x1 x2 x3 x4 : Int} (h : 0 ≤ x0 → 0 ≤ x1 → inI x2 → inI x3 → inI x4 → XJ l G bX12_among Q d 0 [vr x0, vr x1, vi x2, vi x3, vi x4, vu] [] S V mc ms) : Ct l G bX12_among Q d mc ms [vr x0, vr x1, vi x2, vi x3, vi x4] S V := Ct.of okX12_among.1 trivial (Nat.le_of_ble_eq_true rfl) (fun hv => h (hv _ (List.mem_of_getElem? (i := 0) rfl)) (hv _ (List.mem_of_getElem? (i := 1) rfl)) (hv _ (List.mem_of_getElem? (i := 2) rfl)) (hv _ (List.mem_of_getElem? (i := 3) rfl)) (hv _ (List.mem_of_getElem? (i := 4) rfl)))
set_option maxRecDepth 10000 in
theorem vX12_book_0 {l : Launch} {G : GT} {Q : Int → Sh → Mem → Prop} {d : Nat} {S : Sh} {V : Mem} {mc ms : Nat} {x0 : Int} (h : S.1 x0 = 13 ∧ ((V x0 8) ≠ 10 → XJ l G bX12_book Q d 22 [vr x0, vi 0] [] S (up V x0 9 (V x0 8)) mc ms) ∧ (¬ ((V x0 8) ≠ 10) → Q (-2) S V)) : XJ l G bX12_book Q d 0 [vr x0, vu] [] S V mc ms := by
  refine X_aload_n dX12_book_0 rfl ?_
  refine X_getfield (ci := 12) (k := 8) (v := vi (V x0 8)) dX12_book_1 rfl (by decide) kf_RX12_392 rfl h.1 ?_
  refine X_bipush dX12_book_4 (by decide) (by decide) ?_
  refine X_icmp_ne dX12_book_6 (tgt := 12) rfl (fun c1 => ?_) (fun c1 => ?_)
  · refine X_aload_n dX12_book_12 rfl ?_
    refine X_aload_n dX12_book_13 rfl ?_
    refine X_getfield (ci := 12) (k := 8) (v := vi (V x0 8)) dX12_book_14 rfl (by decide) kf_RX12_392 rfl h.1 ?_
    refine X_putfield (ci := 12) (k := 9) (z := (V x0 8)) dX12_book_17 rfl (by decide) kf_RX12_263 (Or.inl rfl) (Or.inl rfl) rfl (fun hv => hv) h.1 ?_
    refine X_iconst dX12_book_20 (by decide) ?_
    refine X_istore_n dX12_book_21 (by decide) rfl ?_
    exact (h.2.1 c1)
  · refine X_bipush dX12_book_9 (by decide) (by decide) ?_
    exact X_ret (z := (-2)) dX12_book_11 rfl (fun hv => vok_h hv) (h.2.2 c1)
set_option maxRecDepth 10000 in
theorem vX12_book_22 {l : Launch} {G : GT} {Q : Int → Sh → Mem → Prop} {d : Nat} {S : Sh} {V : Mem} {mc ms : Nat} {x0 x1 : Int} (h : S.1 x0 = 13 ∧ ((V x0 2) ≤ x1 → CT l G bX12_readBook d mc ms [vr x0] S V (fun z2 S2 V2 mc2 ms2 => S2.1 x0 = 13 ∧ ((V2 x0 46) ≤ 0 → CT l G bX12_asleep d mc2 ms2 [vr x0, vi (V2 x0 9)] S2 (up V2 x0 2 0) (fun z5 S5 V5 mc5 ms5 => S5.1 x0 = 13 ∧ -2147483648 ≤ (V5 x0 8) + 1 ∧ (V5 x0 8) + 1 ≤ 2147483647 ∧ Q (V5 x0 9) S5 (up V5 x0 8 ((V5 x0 8) + 1)))) ∧ (¬ ((V2 x0 46) ≤ 0) → -2147483648 ≤ (-10) - (V2 x0 47) ∧ (-10) - (V2 x0 47) ≤ 2147483647 ∧ Q ((-10) - (V2 x0 47)) S2 (up (up V2 x0 2 0) x0 40 (V x0 40))))) ∧ (¬ ((V x0 2) ≤ x1) → -2147483648 ≤ 3000 * (V x0 9) ∧ 3000 * (V x0 9) ≤ 2147483647 ∧ -2147483648 ≤ (3000 * (V x0 9)) + x1 ∧ (3000 * (V x0 9)) + x1 ≤ 2147483647 ∧ S.1 (V x0 1) = 21 ∧ 0 ≤ x1 ∧ x1 < S.2.1 (V x0 1) ∧ S.1 (V x0 7) = 21 ∧ 0 ≤ ((3000 * (V x0 9)) + x1) ∧ ((3000 * (V x0 9)) + x1) < S.2.1 (V x0 7) ∧ -2147483648 ≤ x1 + 1 ∧ x1 + 1 ≤ 2147483647 ∧ XJ l G bX12_book Q d 22 [vr x0, vi (x1 + 1)] [] S (up V (V x0 7) ((3000 * (V x0 9)) + x1) (wb (V (V x0 1) x1))) mc ms)) : XJ l G bX12_book Q d 22 [vr x0, vi x1] [] S V mc ms := by
  refine X_iload_n dX12_book_22 rfl ?_
  refine X_aload_n dX12_book_23 rfl ?_
  refine X_getfield (ci := 12) (k := 2) (v := vi (V x0 2)) dX12_book_24 rfl (by decide) kf_RX12_192 rfl h.1 ?_
  refine X_icmp_ge dX12_book_27 (tgt := 57) rfl (fun c1 => ?_) (fun c1 => ?_)
  · refine X_aload_n dX12_book_57 rfl ?_
    refine X_getfield (ci := 12) (k := 40) (v := vi (V x0 40)) dX12_book_58 rfl (by decide) kf_RX12_266 rfl h.1 ?_
    refine X_istore_n dX12_book_61 (by decide) rfl ?_
    refine X_aload_n dX12_book_62 rfl ?_
    refine X_invV (ci := 12) (as := []) (st := []) okX12_readBook dX12_book_63 km_RX12_395 rfl rfl (Nat.le_of_ble_eq_true rfl) rfl rfl h.1 (CT.imp (h.2.1 c1) (fun z2 S2 V2 mc2 ms2 hc3 => ?_))
    refine X_aload_n dX12_book_66 rfl ?_
    refine X_iconst dX12_book_67 (by decide) ?_
    refine X_putfield (ci := 12) (k := 2) (z := 0) dX12_book_68 rfl (by decide) kf_RX12_192 (Or.inl rfl) (Or.inl rfl) rfl (fun hv => hv) hc3.1 ?_
    refine X_aload_n dX12_book_71 rfl ?_
    refine X_getfield (ci := 12) (k := 46) (v := vi (V2 x0 46)) dX12_book_72 rfl (by decide) kf_RX12_275 (congrArg vi (up_ne (Or.inr (by decide)))) hc3.1 ?_
    refine X_if_le dX12_book_75 (tgt := 91) rfl (fun c4 => ?_) (fun c4 => ?_)
    · refine X_aload_n dX12_book_91 rfl ?_
      refine X_aload_n dX12_book_92 rfl ?_
      refine X_getfield (ci := 12) (k := 9) (v := vi (V2 x0 9)) dX12_book_93 rfl (by decide) kf_RX12_263 (congrArg vi (up_ne (Or.inr (by decide)))) hc3.1 ?_
      refine X_invV (ci := 12) (as := [vi (V2 x0 9)]) (st := []) okX12_asleep dX12_book_96 km_RX12_398 rfl rfl (Nat.le_of_ble_eq_true rfl) rfl rfl hc3.1 (CT.imp (hc3.2.1 c4) (fun z5 S5 V5 mc5 ms5 hc6 => ?_))
      refine X_aload_n dX12_book_99 rfl ?_
      refine X_dup dX12_book_100 (rv_cat _) ?_
      refine X_getfield (ci := 12) (k := 8) (v := vi (V5 x0 8)) dX12_book_101 rfl (by decide) kf_RX12_392 rfl hc6.1 ?_
      refine X_iconst dX12_book_104 (by decide) ?_
      refine X_iaddN dX12_book_105 hc6.2.1 hc6.2.2.1 ?_
      refine X_putfield (ci := 12) (k := 8) (z := ((V5 x0 8) + 1)) dX12_book_106 rfl (by decide) kf_RX12_392 (Or.inl rfl) (Or.inl rfl) rfl (fun hv => hv) hc6.1 ?_
      refine X_aload_n dX12_book_109 rfl ?_
      refine X_getfield (ci := 12) (k := 9) (v := vi (V5 x0 9)) dX12_book_110 rfl (by decide) kf_RX12_263 (congrArg vi (up_ne (Or.inr (by decide)))) hc6.1 ?_
      exact X_ret (z := (V5 x0 9)) dX12_book_113 rfl (fun hv => vok_h hv) hc6.2.2.2
    · refine X_aload_n dX12_book_78 rfl ?_
      refine X_iload_n dX12_book_79 rfl ?_
      refine X_putfield (ci := 12) (k := 40) (z := (V x0 40)) dX12_book_80 rfl (by decide) kf_RX12_266 (Or.inl rfl) (Or.inl rfl) rfl (fun hv => hv) hc3.1 ?_
      refine X_bipush dX12_book_83 (by decide) (by decide) ?_
      refine X_aload_n dX12_book_85 rfl ?_
      refine X_getfield (ci := 12) (k := 47) (v := vi (V2 x0 47)) dX12_book_86 rfl (by decide) kf_RX12_278 (congrArg vi ((up_ne (Or.inr (by decide))).trans (up_ne (Or.inr (by decide))))) hc3.1 ?_
      refine X_isubN dX12_book_89 (hc3.2.2 c4).1 (hc3.2.2 c4).2.1 ?_
      exact X_ret (z := ((-10) - (V2 x0 47))) dX12_book_90 rfl (fun hv => vok_h hv) (hc3.2.2 c4).2.2
  · refine X_aload_n dX12_book_30 rfl ?_
    refine X_getfield (ci := 12) (k := 7) (v := vr (V x0 7)) dX12_book_31 rfl (by decide) kf_RX12_13 rfl h.1 ?_
    refine X_sipush dX12_book_34 (by decide) (by decide) ?_
    refine X_aload_n dX12_book_37 rfl ?_
    refine X_getfield (ci := 12) (k := 9) (v := vi (V x0 9)) dX12_book_38 rfl (by decide) kf_RX12_263 rfl h.1 ?_
    refine X_imulN dX12_book_41 (h.2.2 c1).1 (h.2.2 c1).2.1 ?_
    refine X_iload_n dX12_book_42 rfl ?_
    refine X_iaddN dX12_book_43 (h.2.2 c1).2.2.1 (h.2.2 c1).2.2.2.1 ?_
    refine X_aload_n dX12_book_44 rfl ?_
    refine X_getfield (ci := 12) (k := 1) (v := vr (V x0 1)) dX12_book_45 rfl (by decide) kf_RX12_7 rfl h.1 ?_
    refine X_iload_n dX12_book_48 rfl ?_
    refine X_baload dX12_book_49 (h.2.2 c1).2.2.2.2.1 (h.2.2 c1).2.2.2.2.2.1 (h.2.2 c1).2.2.2.2.2.2.1 ?_
    refine X_bastore dX12_book_50 (h.2.2 c1).2.2.2.2.2.2.2.1 (h.2.2 c1).2.2.2.2.2.2.2.2.1 (h.2.2 c1).2.2.2.2.2.2.2.2.2.1 ?_
    refine X_iincN dX12_book_51 rfl (by decide) rfl (e := x1 + 1) rfl (h.2.2 c1).2.2.2.2.2.2.2.2.2.2.1 (h.2.2 c1).2.2.2.2.2.2.2.2.2.2.2.1 ?_
    refine X_goto dX12_book_54 (tgt := 22) rfl ?_
    exact (h.2.2 c1).2.2.2.2.2.2.2.2.2.2.2.2
theorem qX12_book {l : Launch} {G : GT} {Q : Int → Sh → Mem → Prop} {d : Nat} {S : Sh} {V : Mem} {mc ms : Nat} {x0 : Int} (h : 0 ≤ x0 → XJ l G bX12_book Q d 0 [vr x0, vu] [] S V mc ms) : Ct l G bX12_book Q d mc ms [vr x0] S V := Ct.of okX12_book.1 trivial (Nat.le_of_ble_eq_true rfl) (fun hv => h (hv _ (List.mem_of_getElem? (i := 0) rfl)))
set_option maxRecDepth 10000 in
theorem vX12_wrong_0 {l : Launch} {G : GT} {Q : Int → Sh → Mem → Prop} {d : Nat} {S : Sh} {V : Mem} {mc ms : Nat} {x0 : Int} (h : S.1 x0 = 13 ∧ Q (V x0 46) S V) : XJ l G bX12_wrong Q d 0 [vr x0] [] S V mc ms := by
  refine X_aload_n dX12_wrong_0 rfl ?_
  refine X_getfield (ci := 12) (k := 46) (v := vi (V x0 46)) dX12_wrong_1 rfl (by decide) kf_RX12_275 rfl h.1 ?_
  exact X_ret (z := (V x0 46)) dX12_wrong_4 rfl (fun hv => vok_h hv) h.2
theorem qX12_wrong {l : Launch} {G : GT} {Q : Int → Sh → Mem → Prop} {d : Nat} {S : Sh} {V : Mem} {mc ms : Nat} {x0 : Int} (h : 0 ≤ x0 → XJ l G bX12_wrong Q d 0 [vr x0] [] S V mc ms) : Ct l G bX12_wrong Q d mc ms [vr x0] S V := Ct.of okX12_wrong.1 trivial (Nat.le_of_ble_eq_true rfl) (fun hv => h (hv _ (List.mem_of_getElem? (i := 0) rfl)))
set_option maxRecDepth 10000 in
theorem vX12_asleep_0 {l : Launch} {G : GT} {Q : Int → Sh → Mem → Prop} {d : Nat} {S : Sh} {V : Mem} {mc ms : Nat} {x0 x1 : Int} (h : XJ l G bX12_asleep Q d 2 [vr x0, vi x1, vi 0, vu] [] S V mc ms) : XJ l G bX12_asleep Q d 0 [vr x0, vi x1, vu, vu] [] S V mc ms := by
  refine X_iconst dX12_asleep_0 (by decide) ?_
  refine X_istore_n dX12_asleep_1 (by decide) rfl ?_
  exact h
set_option maxRecDepth 10000 in
theorem vX12_asleep_2 {l : Launch} {G : GT} {Q : Int → Sh → Mem → Prop} {d : Nat} {S : Sh} {V : Mem} {mc ms : Nat} {x0 x1 x2 : Int} (h : (160 ≤ x2 → -2147483648 ≤ 12 * x1 ∧ 12 * x1 ≤ 2147483647 ∧ XJ l G bX12_asleep Q d 33 [vr x0, vi x1, vi (12 * x1), vu] [] S V mc ms) ∧ (¬ (160 ≤ x2) → S.1 x0 = 13 ∧ -2147483648 ≤ 160 * x1 ∧ 160 * x1 ≤ 2147483647 ∧ -2147483648 ≤ (160 * x1) + x2 ∧ (160 * x1) + x2 ≤ 2147483647 ∧ S.1 (V x0 52) = 20 ∧ 0 ≤ ((160 * x1) + x2) ∧ ((160 * x1) + x2) < S.2.1 (V x0 52) ∧ -2147483648 ≤ x2 + 1 ∧ x2 + 1 ≤ 2147483647 ∧ XJ l G bX12_asleep Q d 2 [vr x0, vi x1, vi (x2 + 1), vu] [] S (up V (V x0 52) ((160 * x1) + x2) 0) mc ms)) : XJ l G bX12_asleep Q d 2 [vr x0, vi x1, vi x2, vu] [] S V mc ms := by
  refine X_iload_n dX12_asleep_2 rfl ?_
  refine X_sipush dX12_asleep_3 (by decide) (by decide) ?_
  refine X_icmp_ge dX12_asleep_6 (tgt := 28) rfl (fun c1 => ?_) (fun c1 => ?_)
  · refine X_bipush dX12_asleep_28 (by decide) (by decide) ?_
    refine X_iload_n dX12_asleep_30 rfl ?_
    refine X_imulN dX12_asleep_31 (h.1 c1).1 (h.1 c1).2.1 ?_
    refine X_istore_n dX12_asleep_32 (by decide) rfl ?_
    exact (h.1 c1).2.2
  · refine X_aload_n dX12_asleep_9 rfl ?_
    refine X_getfield (ci := 12) (k := 52) (v := vr (V x0 52)) dX12_asleep_10 rfl (by decide) kf_RX12_116 rfl (h.2 c1).1 ?_
    refine X_sipush dX12_asleep_13 (by decide) (by decide) ?_
    refine X_iload_n dX12_asleep_16 rfl ?_
    refine X_imulN dX12_asleep_17 (h.2 c1).2.1 (h.2 c1).2.2.1 ?_
    refine X_iload_n dX12_asleep_18 rfl ?_
    refine X_iaddN dX12_asleep_19 (h.2 c1).2.2.2.1 (h.2 c1).2.2.2.2.1 ?_
    refine X_iconst dX12_asleep_20 (by decide) ?_
    refine X_iastore dX12_asleep_21 (h.2 c1).2.2.2.2.2.1 (h.2 c1).2.2.2.2.2.2.1 (h.2 c1).2.2.2.2.2.2.2.1 ?_
    refine X_iincN dX12_asleep_22 rfl (by decide) rfl (e := x2 + 1) rfl (h.2 c1).2.2.2.2.2.2.2.2.1 (h.2 c1).2.2.2.2.2.2.2.2.2.1 ?_
    refine X_goto dX12_asleep_25 (tgt := 2) rfl ?_
    exact (h.2 c1).2.2.2.2.2.2.2.2.2.2
set_option maxRecDepth 10000 in
theorem vX12_asleep_33 {l : Launch} {G : GT} {Q : Int → Sh → Mem → Prop} {d : Nat} {S : Sh} {V : Mem} {mc ms : Nat} {x0 x1 x2 : Int} (h : -2147483648 ≤ 12 * x1 ∧ 12 * x1 ≤ 2147483647 ∧ -2147483648 ≤ (12 * x1) + 12 ∧ (12 * x1) + 12 ≤ 2147483647 ∧ (((12 * x1) + 12) ≤ x2 → S.1 x0 = 13 ∧ S.1 (V x0 59) = 20 ∧ 0 ≤ x1 ∧ x1 < S.2.1 (V x0 59) ∧ S.1 (V x0 62) = 20 ∧ x1 < S.2.1 (V x0 62) ∧ Q 0 S (up (up V (V x0 59) x1 0) (V x0 62) x1 0)) ∧ (¬ (((12 * x1) + 12) ≤ x2) → S.1 x0 = 13 ∧ S.1 (V x0 53) = 20 ∧ 0 ≤ x2 ∧ x2 < S.2.1 (V x0 53) ∧ XJ l G bX12_asleep Q d 53 [vr x0, vi x1, vi x2, vi 0] [] S (up V (V x0 53) x2 0) mc ms)) : XJ l G bX12_asleep Q d 33 [vr x0, vi x1, vi x2, vu] [] S V mc ms := by
  refine X_iload_n dX12_asleep_33 rfl ?_
  refine X_bipush dX12_asleep_34 (by decide) (by decide) ?_
  refine X_iload_n dX12_asleep_36 rfl ?_
  refine X_imulN dX12_asleep_37 h.1 h.2.1 ?_
  refine X_bipush dX12_asleep_38 (by decide) (by decide) ?_
  refine X_iaddN dX12_asleep_40 h.2.2.1 h.2.2.2.1 ?_
  refine X_icmp_ge dX12_asleep_41 (tgt := 81) rfl (fun c1 => ?_) (fun c1 => ?_)
  · refine X_aload_n dX12_asleep_81 rfl ?_
    refine X_getfield (ci := 12) (k := 59) (v := vr (V x0 59)) dX12_asleep_82 rfl (by decide) kf_RX12_137 rfl (h.2.2.2.2.1 c1).1 ?_
    refine X_iload_n dX12_asleep_85 rfl ?_
    refine X_iconst dX12_asleep_86 (by decide) ?_
    refine X_iastore dX12_asleep_87 (h.2.2.2.2.1 c1).2.1 (h.2.2.2.2.1 c1).2.2.1 (h.2.2.2.2.1 c1).2.2.2.1 ?_
    refine X_aload_n dX12_asleep_88 rfl ?_
    refine X_getfield (ci := 12) (k := 62) (v := vr (V x0 62)) dX12_asleep_89 rfl (by decide) kf_RX12_146 (congrArg vr (up_ne (Or.inl (tag_ne (h.2.2.2.2.1 c1).1 (h.2.2.2.2.1 c1).2.1 (by decide))))) (h.2.2.2.2.1 c1).1 ?_
    refine X_iload_n dX12_asleep_92 rfl ?_
    refine X_iconst dX12_asleep_93 (by decide) ?_
    refine X_iastore dX12_asleep_94 (h.2.2.2.2.1 c1).2.2.2.2.1 (h.2.2.2.2.1 c1).2.2.1 (h.2.2.2.2.1 c1).2.2.2.2.2.1 ?_
    exact X_ret (z := 0) dX12_asleep_95 rfl (fun _ => trivial) (h.2.2.2.2.1 c1).2.2.2.2.2.2
  · refine X_aload_n dX12_asleep_44 rfl ?_
    refine X_getfield (ci := 12) (k := 53) (v := vr (V x0 53)) dX12_asleep_45 rfl (by decide) kf_RX12_119 rfl (h.2.2.2.2.2 c1).1 ?_
    refine X_iload_n dX12_asleep_48 rfl ?_
    refine X_iconst dX12_asleep_49 (by decide) ?_
    refine X_iastore dX12_asleep_50 (h.2.2.2.2.2 c1).2.1 (h.2.2.2.2.2 c1).2.2.1 (h.2.2.2.2.2 c1).2.2.2.1 ?_
    refine X_iconst dX12_asleep_51 (by decide) ?_
    refine X_istore_n dX12_asleep_52 (by decide) rfl ?_
    exact (h.2.2.2.2.2 c1).2.2.2.2
set_option maxRecDepth 10000 in
theorem vX12_asleep_53 {l : Launch} {G : GT} {Q : Int → Sh → Mem → Prop} {d : Nat} {S : Sh} {V : Mem} {mc ms : Nat} {x0 x1 x2 x3 : Int} (h : (4 ≤ x3 → -2147483648 ≤ x2 + 1 ∧ x2 + 1 ≤ 2147483647 ∧ XJ l G bX12_asleep Q d 33 [vr x0, vi x1, vi (x2 + 1), vu] [] S V mc ms) ∧ (¬ (4 ≤ x3) → S.1 x0 = 13 ∧ -2147483648 ≤ 4 * x2 ∧ 4 * x2 ≤ 2147483647 ∧ -2147483648 ≤ (4 * x2) + x3 ∧ (4 * x2) + x3 ≤ 2147483647 ∧ S.1 (V x0 55) = 20 ∧ 0 ≤ ((4 * x2) + x3) ∧ ((4 * x2) + x3) < S.2.1 (V x0 55) ∧ -2147483648 ≤ x3 + 1 ∧ x3 + 1 ≤ 2147483647 ∧ XJ l G bX12_asleep Q d 53 [vr x0, vi x1, vi x2, vi (x3 + 1)] [] S (up V (V x0 55) ((4 * x2) + x3) 0) mc ms)) : XJ l G bX12_asleep Q d 53 [vr x0, vi x1, vi x2, vi x3] [] S V mc ms := by
  refine X_iload_n dX12_asleep_53 rfl ?_
  refine X_iconst dX12_asleep_54 (by decide) ?_
  refine X_icmp_ge dX12_asleep_55 (tgt := 75) rfl (fun c1 => ?_) (fun c1 => ?_)
  · refine X_iincN dX12_asleep_75 rfl (by decide) rfl (e := x2 + 1) rfl (h.1 c1).1 (h.1 c1).2.1 ?_
    refine X_goto dX12_asleep_78 (tgt := 33) rfl ?_
    exact X_weak [false, false, false, true] (h.1 c1).2.2
  · refine X_aload_n dX12_asleep_58 rfl ?_
    refine X_getfield (ci := 12) (k := 55) (v := vr (V x0 55)) dX12_asleep_59 rfl (by decide) kf_RX12_125 rfl (h.2 c1).1 ?_
    refine X_iconst dX12_asleep_62 (by decide) ?_
    refine X_iload_n dX12_asleep_63 rfl ?_
    refine X_imulN dX12_asleep_64 (h.2 c1).2.1 (h.2 c1).2.2.1 ?_
    refine X_iload_n dX12_asleep_65 rfl ?_
    refine X_iaddN dX12_asleep_66 (h.2 c1).2.2.2.1 (h.2 c1).2.2.2.2.1 ?_
    refine X_iconst dX12_asleep_67 (by decide) ?_
    refine X_iastore dX12_asleep_68 (h.2 c1).2.2.2.2.2.1 (h.2 c1).2.2.2.2.2.2.1 (h.2 c1).2.2.2.2.2.2.2.1 ?_
    refine X_iincN dX12_asleep_69 rfl (by decide) rfl (e := x3 + 1) rfl (h.2 c1).2.2.2.2.2.2.2.2.1 (h.2 c1).2.2.2.2.2.2.2.2.2.1 ?_
    refine X_goto dX12_asleep_72 (tgt := 53) rfl ?_
    exact (h.2 c1).2.2.2.2.2.2.2.2.2.2
theorem qX12_asleep {l : Launch} {G : GT} {Q : Int → Sh → Mem → Prop} {d : Nat} {S : Sh} {V : Mem} {mc ms : Nat} {x0 x1 : Int} (h : 0 ≤ x0 → inI x1 → XJ l G bX12_asleep Q d 0 [vr x0, vi x1, vu, vu] [] S V mc ms) : Ct l G bX12_asleep Q d mc ms [vr x0, vi x1] S V := Ct.of okX12_asleep.1 trivial (Nat.le_of_ble_eq_true rfl) (fun hv => h (hv _ (List.mem_of_getElem? (i := 0) rfl)) (hv _ (List.mem_of_getElem? (i := 1) rfl)))
set_option maxRecDepth 10000 in
theorem vX12_failing_0 {l : Launch} {G : GT} {Q : Int → Sh → Mem → Prop} {d : Nat} {S : Sh} {V : Mem} {mc ms : Nat} {x0 x1 x2 : Int} (h : S.1 x0 = 13 ∧ S.1 (V x0 66) = 20 ∧ (0 : Int) ≤ 0 ∧ 0 < S.2.1 (V x0 66) ∧ S.1 (V x0 67) = 20 ∧ 0 < S.2.1 (V x0 67) ∧ Q 0 S (up (up (up (up V x0 65 1) x0 68 1) (V x0 66) 0 x1) (V x0 67) 0 x2)) : XJ l G bX12_failing Q d 0 [vr x0, vi x1, vi x2] [] S V mc ms := by
  refine X_aload_n dX12_failing_0 rfl ?_
  refine X_iconst dX12_failing_1 (by decide) ?_
  refine X_putfield (ci := 12) (k := 65) (z := 1) dX12_failing_2 rfl (by decide) kf_RX12_401 (Or.inr (Or.inr (Or.inl rfl))) (Or.inl rfl) rfl (fun _ => Or.inr rfl) h.1 ?_
  refine X_aload_n dX12_failing_5 rfl ?_
  refine X_iconst dX12_failing_6 (by decide) ?_
  refine X_putfield (ci := 12) (k := 68) (z := 1) dX12_failing_7 rfl (by decide) kf_RX12_404 (Or.inl rfl) (Or.inl rfl) rfl (fun hv => hv) h.1 ?_
  refine X_aload_n dX12_failing_10 rfl ?_
  refine X_getfield (ci := 12) (k := 66) (v := vr (V x0 66)) dX12_failing_11 rfl (by decide) kf_RX12_152 (congrArg vr ((up_ne (Or.inr (by decide))).trans (up_ne (Or.inr (by decide))))) h.1 ?_
  refine X_iconst dX12_failing_14 (by decide) ?_
  refine X_iload_n dX12_failing_15 rfl ?_
  refine X_iastore dX12_failing_16 h.2.1 h.2.2.1 h.2.2.2.1 ?_
  refine X_aload_n dX12_failing_17 rfl ?_
  refine X_getfield (ci := 12) (k := 67) (v := vr (V x0 67)) dX12_failing_18 rfl (by decide) kf_RX12_155 (congrArg vr ((up_ne (Or.inl (tag_ne h.1 h.2.1 (by decide)))).trans ((up_ne (Or.inr (by decide))).trans (up_ne (Or.inr (by decide)))))) h.1 ?_
  refine X_iconst dX12_failing_21 (by decide) ?_
  refine X_iload_n dX12_failing_22 rfl ?_
  refine X_iastore dX12_failing_23 h.2.2.2.2.1 h.2.2.1 h.2.2.2.2.2.1 ?_
  refine X_iconst dX12_failing_24 (by decide) ?_
  exact X_ret (z := 0) dX12_failing_25 rfl (fun hv => vok_h hv) h.2.2.2.2.2.2
theorem qX12_failing {l : Launch} {G : GT} {Q : Int → Sh → Mem → Prop} {d : Nat} {S : Sh} {V : Mem} {mc ms : Nat} {x0 x1 x2 : Int} (h : 0 ≤ x0 → inI x1 → inI x2 → XJ l G bX12_failing Q d 0 [vr x0, vi x1, vi x2] [] S V mc ms) : Ct l G bX12_failing Q d mc ms [vr x0, vi x1, vi x2] S V := Ct.of okX12_failing.1 trivial (Nat.le_of_ble_eq_true rfl) (fun hv => h (hv _ (List.mem_of_getElem? (i := 0) rfl)) (hv _ (List.mem_of_getElem? (i := 1) rfl)) (hv _ (List.mem_of_getElem? (i := 2) rfl)))
set_option maxRecDepth 10000 in
theorem vX12_use_0 {l : Launch} {G : GT} {Q : Int → Sh → Mem → Prop} {d : Nat} {S : Sh} {V : Mem} {mc ms : Nat} {x0 x1 : Int} (h : S.1 x0 = 13 ∧ -2147483648 ≤ 160 * (V x0 9) ∧ 160 * (V x0 9) ≤ 2147483647 ∧ -2147483648 ≤ (160 * (V x0 9)) + x1 ∧ (160 * (V x0 9)) + x1 ≤ 2147483647 ∧ S.1 (V x0 52) = 20 ∧ 0 ≤ ((160 * (V x0 9)) + x1) ∧ ((160 * (V x0 9)) + x1) < S.2.1 (V x0 52) ∧ ((V (V x0 52) ((160 * (V x0 9)) + x1)) ≠ 2 → ((V (V x0 52) ((160 * (V x0 9)) + x1)) ≠ 0 → Q 0 S V) ∧ (¬ ((V (V x0 52) ((160 * (V x0 9)) + x1)) ≠ 0) → CT l G bX12_starts d mc ms [vr x0, vi x1] S V (fun z3 S3 V3 mc3 ms3 => Q 0 S3 V3))) ∧ (¬ ((V (V x0 52) ((160 * (V x0 9)) + x1)) ≠ 2) → CT l G bX12_failing d mc ms [vr x0, vi 2, vi x1] S V (fun z5 S5 V5 mc5 ms5 => Q 0 S5 V5))) : XJ l G bX12_use Q d 0 [vr x0, vi x1, vu, vu] [] S V mc ms := by
  refine X_aload_n dX12_use_0 rfl ?_
  refine X_getfield (ci := 12) (k := 52) (v := vr (V x0 52)) dX12_use_1 rfl (by decide) kf_RX12_116 rfl h.1 ?_
  refine X_sipush dX12_use_4 (by decide) (by decide) ?_
  refine X_aload_n dX12_use_7 rfl ?_
  refine X_getfield (ci := 12) (k := 9) (v := vi (V x0 9)) dX12_use_8 rfl (by decide) kf_RX12_263 rfl h.1 ?_
  refine X_imulN dX12_use_11 h.2.1 h.2.2.1 ?_
  refine X_iload_n dX12_use_12 rfl ?_
  refine X_iaddN dX12_use_13 h.2.2.2.1 h.2.2.2.2.1 ?_
  refine X_iaload dX12_use_14 h.2.2.2.2.2.1 h.2.2.2.2.2.2.1 h.2.2.2.2.2.2.2.1 ?_
  refine X_istore_n dX12_use_15 (by decide) rfl ?_
  refine X_iload_n dX12_use_16 rfl ?_
  refine X_iconst dX12_use_17 (by decide) ?_
  refine X_icmp_ne dX12_use_18 (tgt := 31) rfl (fun c1 => ?_) (fun c1 => ?_)
  · refine X_iload_n dX12_use_31 rfl ?_
    refine X_if_ne dX12_use_32 (tgt := 40) rfl (fun c2 => ?_) (fun c2 => ?_)
    · exact X_ret (z := 0) dX12_use_40 rfl (fun _ => trivial) ((h.2.2.2.2.2.2.2.2.1 c1).1 c2)
    · refine X_aload_n dX12_use_35 rfl ?_
      refine X_iload_n dX12_use_36 rfl ?_
      refine X_invV (ci := 12) (as := [vi x1]) (st := []) okX12_starts dX12_use_37 km_RX12_411 rfl rfl (Nat.le_of_ble_eq_true rfl) rfl rfl h.1 (CT.imp ((h.2.2.2.2.2.2.2.2.1 c1).2 c2) (fun z3 S3 V3 mc3 ms3 hc4 => ?_))
      exact X_ret (z := 0) dX12_use_40 rfl (fun _ => trivial) hc4
  · refine X_aload_n dX12_use_21 rfl ?_
    refine X_iconst dX12_use_22 (by decide) ?_
    refine X_iload_n dX12_use_23 rfl ?_
    refine X_invV (ci := 12) (as := [vi 2, vi x1]) (st := []) okX12_failing dX12_use_24 km_RX12_407 rfl rfl (Nat.le_of_ble_eq_true rfl) rfl rfl h.1 (CT.imp (h.2.2.2.2.2.2.2.2.2 c1) (fun z5 S5 V5 mc5 ms5 hc6 => ?_))
    refine X_istore_n dX12_use_27 (by decide) rfl ?_
    refine X_goto dX12_use_28 (tgt := 40) rfl ?_
    exact X_ret (z := 0) dX12_use_40 rfl (fun _ => trivial) hc6
theorem qX12_use {l : Launch} {G : GT} {Q : Int → Sh → Mem → Prop} {d : Nat} {S : Sh} {V : Mem} {mc ms : Nat} {x0 x1 : Int} (h : 0 ≤ x0 → inI x1 → XJ l G bX12_use Q d 0 [vr x0, vi x1, vu, vu] [] S V mc ms) : Ct l G bX12_use Q d mc ms [vr x0, vi x1] S V := Ct.of okX12_use.1 trivial (Nat.le_of_ble_eq_true rfl) (fun hv => h (hv _ (List.mem_of_getElem? (i := 0) rfl)) (hv _ (List.mem_of_getElem? (i := 1) rfl)))
