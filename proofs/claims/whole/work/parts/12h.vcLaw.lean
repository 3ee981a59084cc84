def yL_law : MethodName := ⟨RL, "law", "([I)Z"⟩
abbrev bL_law : BT := (yL_law, cL_law, 4, some .boolean)
set_option maxRecDepth 10000 in
theorem vL_law_0 {l : Launch} {G : GT} {Q : Int → Sh → Mem → Prop} {d : Nat} {S : Sh} {V : Mem} {mc ms : Nat} (h : 1 ≤ mc ∧ 16 ≤ ms ∧ (∀ (S1 : Sh) (V1 : Mem) (r1 : Int) (mc1 ms1 : Nat), r1 = S.2.2 + 1 → S1 = nw S 12 0 → V1 = clr V r1 → mc1 = mc - 1 → ms1 = ms - 16 → r1 ≠ 0 ∧ CT l G bX11_init d mc1 ms1 [vr r1] S1 V1 (fun z3 S3 V3 mc3 ms3 => 1 ≤ mc3 ∧ 84 ≤ ms3 ∧ (∀ (S5 : Sh) (V5 : Mem) (r5 : Int) (mc5 ms5 : Nat), r5 = S3.2.2 + 1 → S5 = nw S3 13 0 → V5 = clr V3 r5 → mc5 = mc3 - 1 → ms5 = ms3 - 84 → r5 ≠ 0 ∧ CT l G bX12_init d mc5 ms5 [vr r5] S5 V5 (fun z7 S7 V7 mc7 ms7 => XJ l G bL_law Q d 18 [vr ((G.2.2.2.2.2.1 : Int) + 1), vr r1, vr r5, vi 0] [] S7 V7 mc7 ms7))))) : XJ l G bL_law Q d 0 [vr ((G.2.2.2.2.2.1 : Int) + 1), vu, vu, vu] [] S V mc ms := by
  refine X_newT (t := 12) (ci := 11) rfl dL_law_0 rfl ⟨kc_RL_7, kn_11⟩ kd_11 h.1 h.2.1 ?_
  generalize hShn2 : nw S 12 0 = S1
  generalize hVhn2 : clr V (S.2.2 + 1) = V1
  generalize hrhn2 : S.2.2 + 1 = r1 at hVhn2 ⊢
  generalize hmhn2 : mc - 1 = mc1
  generalize hkhn2 : ms - 16 = ms1
  have hn2 := h.2.2 S1 V1 r1 mc1 ms1 hrhn2.symm hShn2.symm hVhn2.symm hmhn2.symm hkhn2.symm
  refine X_dup dL_law_3 (rv_cat _) ?_
  refine X_invI (as := []) (st := [vr r1]) okX11_init dL_law_4 km_RL_9 rfl rfl (Nat.le_of_ble_eq_true rfl) hn2.1 (CT.imp hn2.2 (fun z3 S3 V3 mc3 ms3 hc4 => ?_))
  refine X_astore_n dL_law_7 (by decide) rfl ?_
  refine X_newT (t := 13) (ci := 12) rfl dL_law_8 rfl ⟨kc_RL_10, kn_12⟩ kd_12 hc4.1 hc4.2.1 ?_
  generalize hShn6 : nw S3 13 0 = S5
  generalize hVhn6 : clr V3 (S3.2.2 + 1) = V5
  generalize hrhn6 : S3.2.2 + 1 = r5 at hVhn6 ⊢
  generalize hmhn6 : mc3 - 1 = mc5
  generalize hkhn6 : ms3 - 84 = ms5
  have hn6 := hc4.2.2 S5 V5 r5 mc5 ms5 hrhn6.symm hShn6.symm hVhn6.symm hmhn6.symm hkhn6.symm
  refine X_dup dL_law_11 (rv_cat _) ?_
  refine X_invI (as := []) (st := [vr r5]) okX12_init dL_law_12 km_RL_12 rfl rfl (Nat.le_of_ble_eq_true rfl) hn6.1 (CT.imp hn6.2 (fun z7 S7 V7 mc7 ms7 hc8 => ?_))
  refine X_astore_n dL_law_15 (by decide) rfl ?_
  refine X_iconst dL_law_16 (by decide) ?_
  refine X_istore_n dL_law_17 (by decide) rfl ?_
  exact hc8
set_option maxRecDepth 10000 in
theorem vL_law_18 {l : Launch} {G : GT} {Q : Int → Sh → Mem → Prop} {d : Nat} {S : Sh} {V : Mem} {mc ms : Nat} {x1 x2 x3 : Int} (h : -2147483648 ≤ ((G.2.2.2.2.2.2.1 : Nat) : Int) - 5 ∧ ((G.2.2.2.2.2.2.1 : Nat) : Int) - 5 ≤ 2147483647 ∧ ((((G.2.2.2.2.2.2.1 : Nat) : Int) - 5) < x3 → Q 1 S V) ∧ (¬ ((((G.2.2.2.2.2.2.1 : Nat) : Int) - 5) < x3) → 0 ≤ x3 ∧ x3 < ((G.2.2.2.2.2.2.1 : Nat) : Int) ∧ ((bAnd ((G.2.2.2.2.2.2.2 (x3).toNat).toInt) 31) = 0 → -2147483648 ≤ x3 + 1 ∧ x3 + 1 ≤ 2147483647 ∧ 0 ≤ (x3 + 1) ∧ (x3 + 1) < ((G.2.2.2.2.2.2.1 : Nat) : Int) ∧ -2147483648 ≤ x3 + 2 ∧ x3 + 2 ≤ 2147483647 ∧ 0 ≤ (x3 + 2) ∧ (x3 + 2) < ((G.2.2.2.2.2.2.1 : Nat) : Int) ∧ -2147483648 ≤ x3 + 3 ∧ x3 + 3 ≤ 2147483647 ∧ 0 ≤ (x3 + 3) ∧ (x3 + 3) < ((G.2.2.2.2.2.2.1 : Nat) : Int) ∧ S.1 x1 = 12 ∧ CT l G bX11_feed d mc ms [vr x1, vl (lOr (lShl ((G.2.2.2.2.2.2.2 (x3 + 1).toNat).toInt) 32) (lAnd ((G.2.2.2.2.2.2.2 (x3 + 2).toNat).toInt) 4294967295)), vi ((G.2.2.2.2.2.2.2 (x3 + 3).toNat).toInt)] S V (fun z3 S3 V3 mc3 ms3 => -2147483648 ≤ x3 + 1 ∧ x3 + 1 ≤ 2147483647 ∧ 0 ≤ (x3 + 1) ∧ (x3 + 1) < ((G.2.2.2.2.2.2.1 : Nat) : Int) ∧ -2147483648 ≤ x3 + 2 ∧ x3 + 2 ≤ 2147483647 ∧ 0 ≤ (x3 + 2) ∧ (x3 + 2) < ((G.2.2.2.2.2.2.1 : Nat) : Int) ∧ -2147483648 ≤ x3 + 3 ∧ x3 + 3 ≤ 2147483647 ∧ 0 ≤ (x3 + 3) ∧ (x3 + 3) < ((G.2.2.2.2.2.2.1 : Nat) : Int) ∧ S3.1 x2 = 13 ∧ CT l G bX12_feed d mc3 ms3 [vr x2, vl (lOr (lShl ((G.2.2.2.2.2.2.2 (x3 + 1).toNat).toInt) 32) (lAnd ((G.2.2.2.2.2.2.2 (x3 + 2).toNat).toInt) 4294967295)), vi ((G.2.2.2.2.2.2.2 (x3 + 3).toNat).toInt)] S3 V3 (fun z5 S5 V5 mc5 ms5 => (z3 = z5 → -2147483648 ≤ x3 + 5 ∧ x3 + 5 ≤ 2147483647 ∧ XJ l G bL_law Q d 18 [vr ((G.2.2.2.2.2.1 : Int) + 1), vr x1, vr x2, vi (x3 + 5)] [] S5 V5 mc5 ms5) ∧ (¬ (z3 = z5) → Q 0 S5 V5)))) ∧ (¬ (bAnd ((G.2.2.2.2.2.2.2 (x3).toNat).toInt) 31) = 0 → ((bAnd ((G.2.2.2.2.2.2.2 (x3).toNat).toInt) 31) = 1 → -2147483648 ≤ x3 + 1 ∧ x3 + 1 ≤ 2147483647 ∧ 0 ≤ (x3 + 1) ∧ (x3 + 1) < ((G.2.2.2.2.2.2.1 : Nat) : Int) ∧ S.1 x1 = 12 ∧ CT l G bX11_cut d mc ms [vr x1, vi ((G.2.2.2.2.2.2.2 (x3 + 1).toNat).toInt)] S V (fun z9 S9 V9 mc9 ms9 => -2147483648 ≤ x3 + 1 ∧ x3 + 1 ≤ 2147483647 ∧ 0 ≤ (x3 + 1) ∧ (x3 + 1) < ((G.2.2.2.2.2.2.1 : Nat) : Int) ∧ S9.1 x2 = 13 ∧ CT l G bX12_cut d mc9 ms9 [vr x2, vi ((G.2.2.2.2.2.2.2 (x3 + 1).toNat).toInt)] S9 V9 (fun z11 S11 V11 mc11 ms11 => (z9 = z11 → -2147483648 ≤ x3 + 5 ∧ x3 + 5 ≤ 2147483647 ∧ XJ l G bL_law Q d 18 [vr ((G.2.2.2.2.2.1 : Int) + 1), vr x1, vr x2, vi (x3 + 5)] [] S11 V11 mc11 ms11) ∧ (¬ (z9 = z11) → Q 0 S11 V11)))) ∧ (¬ (bAnd ((G.2.2.2.2.2.2.2 (x3).toNat).toInt) 31) = 1 → ((bAnd ((G.2.2.2.2.2.2.2 (x3).toNat).toInt) 31) = 2 → S.1 x1 = 12 ∧ CT l G bX11_book d mc ms [vr x1] S V (fun z15 S15 V15 mc15 ms15 => S15.1 x2 = 13 ∧ CT l G bX12_book d mc15 ms15 [vr x2] S15 V15 (fun z17 S17 V17 mc17 ms17 => (z15 = z17 → -2147483648 ≤ x3 + 5 ∧ x3 + 5 ≤ 2147483647 ∧ XJ l G bL_law Q d 18 [vr ((G.2.2.2.2.2.1 : Int) + 1), vr x1, vr x2, vi (x3 + 5)] [] S17 V17 mc17 ms17) ∧ (¬ (z15 = z17) → Q 0 S17 V17)))) ∧ (¬ (bAnd ((G.2.2.2.2.2.2.2 (x3).toNat).toInt) 31) = 2 → ((bAnd ((G.2.2.2.2.2.2.2 (x3).toNat).toInt) 31) = 3 → S.1 x1 = 12 ∧ CT l G bX11_wrong d mc ms [vr x1] S V (fun z21 S21 V21 mc21 ms21 => S21.1 x2 = 13 ∧ CT l G bX12_wrong d mc21 ms21 [vr x2] S21 V21 (fun z23 S23 V23 mc23 ms23 => (z21 = z23 → -2147483648 ≤ x3 + 5 ∧ x3 + 5 ≤ 2147483647 ∧ XJ l G bL_law Q d 18 [vr ((G.2.2.2.2.2.1 : Int) + 1), vr x1, vr x2, vi (x3 + 5)] [] S23 V23 mc23 ms23) ∧ (¬ (z21 = z23) → Q 0 S23 V23)))) ∧ (¬ (bAnd ((G.2.2.2.2.2.2.2 (x3).toNat).toInt) 31) = 3 → ((bAnd ((G.2.2.2.2.2.2.2 (x3).toNat).toInt) 31) = 4 → -2147483648 ≤ x3 + 1 ∧ x3 + 1 ≤ 2147483647 ∧ 0 ≤ (x3 + 1) ∧ (x3 + 1) < ((G.2.2.2.2.2.2.1 : Nat) : Int) ∧ -2147483648 ≤ x3 + 2 ∧ x3 + 2 ≤ 2147483647 ∧ 0 ≤ (x3 + 2) ∧ (x3 + 2) < ((G.2.2.2.2.2.2.1 : Nat) : Int) ∧ S.1 x1 = 12 ∧ CT l G bX11_told d mc ms [vr x1, vi ((G.2.2.2.2.2.2.2 (x3 + 1).toNat).toInt), vi ((G.2.2.2.2.2.2.2 (x3 + 2).toNat).toInt)] S V (fun z27 S27 V27 mc27 ms27 => -2147483648 ≤ x3 + 1 ∧ x3 + 1 ≤ 2147483647 ∧ 0 ≤ (x3 + 1) ∧ (x3 + 1) < ((G.2.2.2.2.2.2.1 : Nat) : Int) ∧ -2147483648 ≤ x3 + 2 ∧ x3 + 2 ≤ 2147483647 ∧ 0 ≤ (x3 + 2) ∧ (x3 + 2) < ((G.2.2.2.2.2.2.1 : Nat) : Int) ∧ S27.1 x2 = 13 ∧ CT l G bX12_told d mc27 ms27 [vr x2, vi ((G.2.2.2.2.2.2.2 (x3 + 1).toNat).toInt), vi ((G.2.2.2.2.2.2.2 (x3 + 2).toNat).toInt)] S27 V27 (fun z29 S29 V29 mc29 ms29 => (z27 = z29 → -2147483648 ≤ x3 + 5 ∧ x3 + 5 ≤ 2147483647 ∧ XJ l G bL_law Q d 18 [vr ((G.2.2.2.2.2.1 : Int) + 1), vr x1, vr x2, vi (x3 + 5)] [] S29 V29 mc29 ms29) ∧ (¬ (z27 = z29) → Q 0 S29 V29)))) ∧ (¬ (bAnd ((G.2.2.2.2.2.2.2 (x3).toNat).toInt) 31) = 4 → ((bAnd ((G.2.2.2.2.2.2.2 (x3).toNat).toInt) 31) = 5 → -2147483648 ≤ x3 + 1 ∧ x3 + 1 ≤ 2147483647 ∧ 0 ≤ (x3 + 1) ∧ (x3 + 1) < ((G.2.2.2.2.2.2.1 : Nat) : Int) ∧ -2147483648 ≤ x3 + 2 ∧ x3 + 2 ≤ 2147483647 ∧ 0 ≤ (x3 + 2) ∧ (x3 + 2) < ((G.2.2.2.2.2.2.1 : Nat) : Int) ∧ -2147483648 ≤ x3 + 3 ∧ x3 + 3 ≤ 2147483647 ∧ 0 ≤ (x3 + 3) ∧ (x3 + 3) < ((G.2.2.2.2.2.2.1 : Nat) : Int) ∧ S.1 x1 = 12 ∧ CT l G bX11_about d mc ms [vr x1, vi ((G.2.2.2.2.2.2.2 (x3 + 1).toNat).toInt), vi ((G.2.2.2.2.2.2.2 (x3 + 2).toNat).toInt), vi ((G.2.2.2.2.2.2.2 (x3 + 3).toNat).toInt)] S V (fun z33 S33 V33 mc33 ms33 => -2147483648 ≤ x3 + 1 ∧ x3 + 1 ≤ 2147483647 ∧ 0 ≤ (x3 + 1) ∧ (x3 + 1) < ((G.2.2.2.2.2.2.1 : Nat) : Int) ∧ -2147483648 ≤ x3 + 2 ∧ x3 + 2 ≤ 2147483647 ∧ 0 ≤ (x3 + 2) ∧ (x3 + 2) < ((G.2.2.2.2.2.2.1 : Nat) : Int) ∧ -2147483648 ≤ x3 + 3 ∧ x3 + 3 ≤ 2147483647 ∧ 0 ≤ (x3 + 3) ∧ (x3 + 3) < ((G.2.2.2.2.2.2.1 : Nat) : Int) ∧ S33.1 x2 = 13 ∧ CT l G bX12_about d mc33 ms33 [vr x2, vi ((G.2.2.2.2.2.2.2 (x3 + 1).toNat).toInt), vi ((G.2.2.2.2.2.2.2 (x3 + 2).toNat).toInt), vi ((G.2.2.2.2.2.2.2 (x3 + 3).toNat).toInt)] S33 V33 (fun z35 S35 V35 mc35 ms35 => (z33 = z35 → -2147483648 ≤ x3 + 5 ∧ x3 + 5 ≤ 2147483647 ∧ XJ l G bL_law Q d 18 [vr ((G.2.2.2.2.2.1 : Int) + 1), vr x1, vr x2, vi (x3 + 5)] [] S35 V35 mc35 ms35) ∧ (¬ (z33 = z35) → Q 0 S35 V35)))) ∧ (¬ (bAnd ((G.2.2.2.2.2.2.2 (x3).toNat).toInt) 31) = 5 → ((bAnd ((G.2.2.2.2.2.2.2 (x3).toNat).toInt) 31) = 6 → -2147483648 ≤ x3 + 1 ∧ x3 + 1 ≤ 2147483647 ∧ 0 ≤ (x3 + 1) ∧ (x3 + 1) < ((G.2.2.2.2.2.2.1 : Nat) : Int) ∧ -2147483648 ≤ x3 + 2 ∧ x3 + 2 ≤ 2147483647 ∧ 0 ≤ (x3 + 2) ∧ (x3 + 2) < ((G.2.2.2.2.2.2.1 : Nat) : Int) ∧ S.1 x1 = 12 ∧ CT l G bX11_state d mc ms [vr x1, vi ((G.2.2.2.2.2.2.2 (x3 + 1).toNat).toInt), vi ((G.2.2.2.2.2.2.2 (x3 + 2).toNat).toInt)] S V (fun z39 S39 V39 mc39 ms39 => -2147483648 ≤ x3 + 1 ∧ x3 + 1 ≤ 2147483647 ∧ 0 ≤ (x3 + 1) ∧ (x3 + 1) < ((G.2.2.2.2.2.2.1 : Nat) : Int) ∧ -2147483648 ≤ x3 + 2 ∧ x3 + 2 ≤ 2147483647 ∧ 0 ≤ (x3 + 2) ∧ (x3 + 2) < ((G.2.2.2.2.2.2.1 : Nat) : Int) ∧ S39.1 x2 = 13 ∧ CT l G bX12_state d mc39 ms39 [vr x2, vi ((G.2.2.2.2.2.2.2 (x3 + 1).toNat).toInt), vi ((G.2.2.2.2.2.2.2 (x3 + 2).toNat).toInt)] S39 V39 (fun z41 S41 V41 mc41 ms41 => (z39 = z41 → -2147483648 ≤ x3 + 5 ∧ x3 + 5 ≤ 2147483647 ∧ XJ l G bL_law Q d 18 [vr ((G.2.2.2.2.2.1 : Int) + 1), vr x1, vr x2, vi (x3 + 5)] [] S41 V41 mc41 ms41) ∧ (¬ (z39 = z41) → Q 0 S41 V41)))) ∧ (¬ (bAnd ((G.2.2.2.2.2.2.2 (x3).toNat).toInt) 31) = 6 → ((bAnd ((G.2.2.2.2.2.2.2 (x3).toNat).toInt) 31) = 7 → -2147483648 ≤ x3 + 1 ∧ x3 + 1 ≤ 2147483647 ∧ 0 ≤ (x3 + 1) ∧ (x3 + 1) < ((G.2.2.2.2.2.2.1 : Nat) : Int) ∧ -2147483648 ≤ x3 + 2 ∧ x3 + 2 ≤ 2147483647 ∧ 0 ≤ (x3 + 2) ∧ (x3 + 2) < ((G.2.2.2.2.2.2.1 : Nat) : Int) ∧ -2147483648 ≤ x3 + 3 ∧ x3 + 3 ≤ 2147483647 ∧ 0 ≤ (x3 + 3) ∧ (x3 + 3) < ((G.2.2.2.2.2.2.1 : Nat) : Int) ∧ -2147483648 ≤ x3 + 4 ∧ x3 + 4 ≤ 2147483647 ∧ 0 ≤ (x3 + 4) ∧ (x3 + 4) < ((G.2.2.2.2.2.2.1 : Nat) : Int) ∧ S.1 x1 = 12 ∧ CT l G bX11_letter d mc ms [vr x1, vi ((G.2.2.2.2.2.2.2 (x3 + 1).toNat).toInt), vi ((G.2.2.2.2.2.2.2 (x3 + 2).toNat).toInt), vi ((G.2.2.2.2.2.2.2 (x3 + 3).toNat).toInt), vi ((G.2.2.2.2.2.2.2 (x3 + 4).toNat).toInt)] S V (fun z45 S45 V45 mc45 ms45 => -2147483648 ≤ x3 + 1 ∧ x3 + 1 ≤ 2147483647 ∧ 0 ≤ (x3 + 1) ∧ (x3 + 1) < ((G.2.2.2.2.2.2.1 : Nat) : Int) ∧ -2147483648 ≤ x3 + 2 ∧ x3 + 2 ≤ 2147483647 ∧ 0 ≤ (x3 + 2) ∧ (x3 + 2) < ((G.2.2.2.2.2.2.1 : Nat) : Int) ∧ -2147483648 ≤ x3 + 3 ∧ x3 + 3 ≤ 2147483647 ∧ 0 ≤ (x3 + 3) ∧ (x3 + 3) < ((G.2.2.2.2.2.2.1 : Nat) : Int) ∧ -2147483648 ≤ x3 + 4 ∧ x3 + 4 ≤ 2147483647 ∧ 0 ≤ (x3 + 4) ∧ (x3 + 4) < ((G.2.2.2.2.2.2.1 : Nat) : Int) ∧ S45.1 x2 = 13 ∧ CT l G bX12_letter d mc45 ms45 [vr x2, vi ((G.2.2.2.2.2.2.2 (x3 + 1).toNat).toInt), vi ((G.2.2.2.2.2.2.2 (x3 + 2).toNat).toInt), vi ((G.2.2.2.2.2.2.2 (x3 + 3).toNat).toInt), vi ((G.2.2.2.2.2.2.2 (x3 + 4).toNat).toInt)] S45 V45 (fun z47 S47 V47 mc47 ms47 => (z45 = z47 → -2147483648 ≤ x3 + 5 ∧ x3 + 5 ≤ 2147483647 ∧ XJ l G bL_law Q d 18 [vr ((G.2.2.2.2.2.1 : Int) + 1), vr x1, vr x2, vi (x3 + 5)] [] S47 V47 mc47 ms47) ∧ (¬ (z45 = z47) → Q 0 S47 V47)))) ∧ (¬ (bAnd ((G.2.2.2.2.2.2.2 (x3).toNat).toInt) 31) = 7 → ((bAnd ((G.2.2.2.2.2.2.2 (x3).toNat).toInt) 31) = 8 → -2147483648 ≤ x3 + 1 ∧ x3 + 1 ≤ 2147483647 ∧ 0 ≤ (x3 + 1) ∧ (x3 + 1) < ((G.2.2.2.2.2.2.1 : Nat) : Int) ∧ -2147483648 ≤ x3 + 2 ∧ x3 + 2 ≤ 2147483647 ∧ 0 ≤ (x3 + 2) ∧ (x3 + 2) < ((G.2.2.2.2.2.2.1 : Nat) : Int) ∧ -2147483648 ≤ x3 + 3 ∧ x3 + 3 ≤ 2147483647 ∧ 0 ≤ (x3 + 3) ∧ (x3 + 3) < ((G.2.2.2.2.2.2.1 : Nat) : Int) ∧ -2147483648 ≤ x3 + 4 ∧ x3 + 4 ≤ 2147483647 ∧ 0 ≤ (x3 + 4) ∧ (x3 + 4) < ((G.2.2.2.2.2.2.1 : Nat) : Int) ∧ S.1 x1 = 12 ∧ CT l G bX11_body d mc ms [vr x1, vi ((G.2.2.2.2.2.2.2 (x3 + 1).toNat).toInt), vi ((G.2.2.2.2.2.2.2 (x3 + 2).toNat).toInt), vi ((G.2.2.2.2.2.2.2 (x3 + 3).toNat).toInt), vi ((G.2.2.2.2.2.2.2 (x3 + 4).toNat).toInt)] S V (fun z51 S51 V51 mc51 ms51 => -2147483648 ≤ x3 + 1 ∧ x3 + 1 ≤ 2147483647 ∧ 0 ≤ (x3 + 1) ∧ (x3 + 1) < ((G.2.2.2.2.2.2.1 : Nat) : Int) ∧ -2147483648 ≤ x3 + 2 ∧ x3 + 2 ≤ 2147483647 ∧ 0 ≤ (x3 + 2) ∧ (x3 + 2) < ((G.2.2.2.2.2.2.1 : Nat) : Int) ∧ -2147483648 ≤ x3 + 3 ∧ x3 + 3 ≤ 2147483647 ∧ 0 ≤ (x3 + 3) ∧ (x3 + 3) < ((G.2.2.2.2.2.2.1 : Nat) : Int) ∧ -2147483648 ≤ x3 + 4 ∧ x3 + 4 ≤ 2147483647 ∧ 0 ≤ (x3 + 4) ∧ (x3 + 4) < ((G.2.2.2.2.2.2.1 : Nat) : Int) ∧ S51.1 x2 = 13 ∧ CT l G bX12_body d mc51 ms51 [vr x2, vi ((G.2.2.2.2.2.2.2 (x3 + 1).toNat).toInt), vi ((G.2.2.2.2.2.2.2 (x3 + 2).toNat).toInt), vi ((G.2.2.2.2.2.2.2 (x3 + 3).toNat).toInt), vi ((G.2.2.2.2.2.2.2 (x3 + 4).toNat).toInt)] S51 V51 (fun z53 S53 V53 mc53 ms53 => (z51 = z53 → -2147483648 ≤ x3 + 5 ∧ x3 + 5 ≤ 2147483647 ∧ XJ l G bL_law Q d 18 [vr ((G.2.2.2.2.2.1 : Int) + 1), vr x1, vr x2, vi (x3 + 5)] [] S53 V53 mc53 ms53) ∧ (¬ (z51 = z53) → Q 0 S53 V53)))) ∧ (¬ (bAnd ((G.2.2.2.2.2.2.2 (x3).toNat).toInt) 31) = 8 → ((bAnd ((G.2.2.2.2.2.2.2 (x3).toNat).toInt) 31) = 9 → -2147483648 ≤ x3 + 1 ∧ x3 + 1 ≤ 2147483647 ∧ 0 ≤ (x3 + 1) ∧ (x3 + 1) < ((G.2.2.2.2.2.2.1 : Nat) : Int) ∧ -2147483648 ≤ x3 + 2 ∧ x3 + 2 ≤ 2147483647 ∧ 0 ≤ (x3 + 2) ∧ (x3 + 2) < ((G.2.2.2.2.2.2.1 : Nat) : Int) ∧ S.1 x1 = 12 ∧ CT l G bX11_use d mc ms [vr x1, vi ((G.2.2.2.2.2.2.2 (x3 + 1).toNat).toInt), vi ((G.2.2.2.2.2.2.2 (x3 + 2).toNat).toInt)] S V (fun z57 S57 V57 mc57 ms57 => -2147483648 ≤ x3 + 1 ∧ x3 + 1 ≤ 2147483647 ∧ 0 ≤ (x3 + 1) ∧ (x3 + 1) < ((G.2.2.2.2.2.2.1 : Nat) : Int) ∧ -2147483648 ≤ x3 + 2 ∧ x3 + 2 ≤ 2147483647 ∧ 0 ≤ (x3 + 2) ∧ (x3 + 2) < ((G.2.2.2.2.2.2.1 : Nat) : Int) ∧ S57.1 x2 = 13 ∧ CT l G bX12_use_ d mc57 ms57 [vr x2, vi ((G.2.2.2.2.2.2.2 (x3 + 1).toNat).toInt), vi ((G.2.2.2.2.2.2.2 (x3 + 2).toNat).toInt)] S57 V57 (fun z59 S59 V59 mc59 ms59 => (z57 = z59 → -2147483648 ≤ x3 + 5 ∧ x3 + 5 ≤ 2147483647 ∧ XJ l G bL_law Q d 18 [vr ((G.2.2.2.2.2.1 : Int) + 1), vr x1, vr x2, vi (x3 + 5)] [] S59 V59 mc59 ms59) ∧ (¬ (z57 = z59) → Q 0 S59 V59)))) ∧ (¬ (bAnd ((G.2.2.2.2.2.2.2 (x3).toNat).toInt) 31) = 9 → ((bAnd ((G.2.2.2.2.2.2.2 (x3).toNat).toInt) 31) = 10 → -2147483648 ≤ x3 + 1 ∧ x3 + 1 ≤ 2147483647 ∧ 0 ≤ (x3 + 1) ∧ (x3 + 1) < ((G.2.2.2.2.2.2.1 : Nat) : Int) ∧ -2147483648 ≤ x3 + 2 ∧ x3 + 2 ≤ 2147483647 ∧ 0 ≤ (x3 + 2) ∧ (x3 + 2) < ((G.2.2.2.2.2.2.1 : Nat) : Int) ∧ -2147483648 ≤ x3 + 3 ∧ x3 + 3 ≤ 2147483647 ∧ 0 ≤ (x3 + 3) ∧ (x3 + 3) < ((G.2.2.2.2.2.2.1 : Nat) : Int) ∧ S.1 x1 = 12 ∧ CT l G bX11_argument d mc ms [vr x1, vi ((G.2.2.2.2.2.2.2 (x3 + 1).toNat).toInt), vi ((G.2.2.2.2.2.2.2 (x3 + 2).toNat).toInt), vi ((G.2.2.2.2.2.2.2 (x3 + 3).toNat).toInt)] S V (fun z63 S63 V63 mc63 ms63 => -2147483648 ≤ x3 + 1 ∧ x3 + 1 ≤ 2147483647 ∧ 0 ≤ (x3 + 1) ∧ (x3 + 1) < ((G.2.2.2.2.2.2.1 : Nat) : Int) ∧ -2147483648 ≤ x3 + 2 ∧ x3 + 2 ≤ 2147483647 ∧ 0 ≤ (x3 + 2) ∧ (x3 + 2) < ((G.2.2.2.2.2.2.1 : Nat) : Int) ∧ -2147483648 ≤ x3 + 3 ∧ x3 + 3 ≤ 2147483647 ∧ 0 ≤ (x3 + 3) ∧ (x3 + 3) < ((G.2.2.2.2.2.2.1 : Nat) : Int) ∧ S63.1 x2 = 13 ∧ CT l G bX12_argument d mc63 ms63 [vr x2, vi ((G.2.2.2.2.2.2.2 (x3 + 1).toNat).toInt), vi ((G.2.2.2.2.2.2.2 (x3 + 2).toNat).toInt), vi ((G.2.2.2.2.2.2.2 (x3 + 3).toNat).toInt)] S63 V63 (fun z65 S65 V65 mc65 ms65 => (z63 = z65 → -2147483648 ≤ x3 + 5 ∧ x3 + 5 ≤ 2147483647 ∧ XJ l G bL_law Q d 18 [vr ((G.2.2.2.2.2.1 : Int) + 1), vr x1, vr x2, vi (x3 + 5)] [] S65 V65 mc65 ms65) ∧ (¬ (z63 = z65) → Q 0 S65 V65)))) ∧ (¬ (bAnd ((G.2.2.2.2.2.2.2 (x3).toNat).toInt) 31) = 10 → ((bAnd ((G.2.2.2.2.2.2.2 (x3).toNat).toInt) 31) = 11 → -2147483648 ≤ x3 + 1 ∧ x3 + 1 ≤ 2147483647 ∧ 0 ≤ (x3 + 1) ∧ (x3 + 1) < ((G.2.2.2.2.2.2.1 : Nat) : Int) ∧ -2147483648 ≤ x3 + 2 ∧ x3 + 2 ≤ 2147483647 ∧ 0 ≤ (x3 + 2) ∧ (x3 + 2) < ((G.2.2.2.2.2.2.1 : Nat) : Int) ∧ -2147483648 ≤ x3 + 3 ∧ x3 + 3 ≤ 2147483647 ∧ 0 ≤ (x3 + 3) ∧ (x3 + 3) < ((G.2.2.2.2.2.2.1 : Nat) : Int) ∧ -2147483648 ≤ x3 + 4 ∧ x3 + 4 ≤ 2147483647 ∧ 0 ≤ (x3 + 4) ∧ (x3 + 4) < ((G.2.2.2.2.2.2.1 : Nat) : Int) ∧ S.1 x1 = 12 ∧ CT l G bX11_act d mc ms [vr x1, vi ((G.2.2.2.2.2.2.2 (x3 + 1).toNat).toInt), vi ((G.2.2.2.2.2.2.2 (x3 + 2).toNat).toInt), vi ((G.2.2.2.2.2.2.2 (x3 + 3).toNat).toInt), vi ((G.2.2.2.2.2.2.2 (x3 + 4).toNat).toInt)] S V (fun z69 S69 V69 mc69 ms69 => -2147483648 ≤ x3 + 1 ∧ x3 + 1 ≤ 2147483647 ∧ 0 ≤ (x3 + 1) ∧ (x3 + 1) < ((G.2.2.2.2.2.2.1 : Nat) : Int) ∧ -2147483648 ≤ x3 + 2 ∧ x3 + 2 ≤ 2147483647 ∧ 0 ≤ (x3 + 2) ∧ (x3 + 2) < ((G.2.2.2.2.2.2.1 : Nat) : Int) ∧ -2147483648 ≤ x3 + 3 ∧ x3 + 3 ≤ 2147483647 ∧ 0 ≤ (x3 + 3) ∧ (x3 + 3) < ((G.2.2.2.2.2.2.1 : Nat) : Int) ∧ -2147483648 ≤ x3 + 4 ∧ x3 + 4 ≤ 2147483647 ∧ 0 ≤ (x3 + 4) ∧ (x3 + 4) < ((G.2.2.2.2.2.2.1 : Nat) : Int) ∧ S69.1 x2 = 13 ∧ CT l G bX12_act d mc69 ms69 [vr x2, vi ((G.2.2.2.2.2.2.2 (x3 + 1).toNat).toInt), vi ((G.2.2.2.2.2.2.2 (x3 + 2).toNat).toInt), vi ((G.2.2.2.2.2.2.2 (x3 + 3).toNat).toInt), vi ((G.2.2.2.2.2.2.2 (x3 + 4).toNat).toInt)] S69 V69 (fun z71 S71 V71 mc71 ms71 => (z69 = z71 → -2147483648 ≤ x3 + 5 ∧ x3 + 5 ≤ 2147483647 ∧ XJ l G bL_law Q d 18 [vr ((G.2.2.2.2.2.1 : Int) + 1), vr x1, vr x2, vi (x3 + 5)] [] S71 V71 mc71 ms71) ∧ (¬ (z69 = z71) → Q 0 S71 V71)))) ∧ (¬ (bAnd ((G.2.2.2.2.2.2.2 (x3).toNat).toInt) 31) = 11 → ((bAnd ((G.2.2.2.2.2.2.2 (x3).toNat).toInt) 31) = 12 → -2147483648 ≤ x3 + 1 ∧ x3 + 1 ≤ 2147483647 ∧ 0 ≤ (x3 + 1) ∧ (x3 + 1) < ((G.2.2.2.2.2.2.1 : Nat) : Int) ∧ -2147483648 ≤ x3 + 2 ∧ x3 + 2 ≤ 2147483647 ∧ 0 ≤ (x3 + 2) ∧ (x3 + 2) < ((G.2.2.2.2.2.2.1 : Nat) : Int) ∧ -2147483648 ≤ x3 + 3 ∧ x3 + 3 ≤ 2147483647 ∧ 0 ≤ (x3 + 3) ∧ (x3 + 3) < ((G.2.2.2.2.2.2.1 : Nat) : Int) ∧ -2147483648 ≤ x3 + 4 ∧ x3 + 4 ≤ 2147483647 ∧ 0 ≤ (x3 + 4) ∧ (x3 + 4) < ((G.2.2.2.2.2.2.1 : Nat) : Int) ∧ S.1 x1 = 12 ∧ CT l G bX11_entry d mc ms [vr x1, vi ((G.2.2.2.2.2.2.2 (x3 + 1).toNat).toInt), vi ((G.2.2.2.2.2.2.2 (x3 + 2).toNat).toInt), vi ((G.2.2.2.2.2.2.2 (x3 + 3).toNat).toInt), vi ((G.2.2.2.2.2.2.2 (x3 + 4).toNat).toInt)] S V (fun z75 S75 V75 mc75 ms75 => -2147483648 ≤ x3 + 1 ∧ x3 + 1 ≤ 2147483647 ∧ 0 ≤ (x3 + 1) ∧ (x3 + 1) < ((G.2.2.2.2.2.2.1 : Nat) : Int) ∧ -2147483648 ≤ x3 + 2 ∧ x3 + 2 ≤ 2147483647 ∧ 0 ≤ (x3 + 2) ∧ (x3 + 2) < ((G.2.2.2.2.2.2.1 : Nat) : Int) ∧ -2147483648 ≤ x3 + 3 ∧ x3 + 3 ≤ 2147483647 ∧ 0 ≤ (x3 + 3) ∧ (x3 + 3) < ((G.2.2.2.2.2.2.1 : Nat) : Int) ∧ -2147483648 ≤ x3 + 4 ∧ x3 + 4 ≤ 2147483647 ∧ 0 ≤ (x3 + 4) ∧ (x3 + 4) < ((G.2.2.2.2.2.2.1 : Nat) : Int) ∧ S75.1 x2 = 13 ∧ CT l G bX12_entry d mc75 ms75 [vr x2, vi ((G.2.2.2.2.2.2.2 (x3 + 1).toNat).toInt), vi ((G.2.2.2.2.2.2.2 (x3 + 2).toNat).toInt), vi ((G.2.2.2.2.2.2.2 (x3 + 3).toNat).toInt), vi ((G.2.2.2.2.2.2.2 (x3 + 4).toNat).toInt)] S75 V75 (fun z77 S77 V77 mc77 ms77 => (z75 = z77 → -2147483648 ≤ x3 + 5 ∧ x3 + 5 ≤ 2147483647 ∧ XJ l G bL_law Q d 18 [vr ((G.2.2.2.2.2.1 : Int) + 1), vr x1, vr x2, vi (x3 + 5)] [] S77 V77 mc77 ms77) ∧ (¬ (z75 = z77) → Q 0 S77 V77)))) ∧ (¬ (bAnd ((G.2.2.2.2.2.2.2 (x3).toNat).toInt) 31) = 12 → ((bAnd ((G.2.2.2.2.2.2.2 (x3).toNat).toInt) 31) = 13 → -2147483648 ≤ x3 + 1 ∧ x3 + 1 ≤ 2147483647 ∧ 0 ≤ (x3 + 1) ∧ (x3 + 1) < ((G.2.2.2.2.2.2.1 : Nat) : Int) ∧ -2147483648 ≤ x3 + 2 ∧ x3 + 2 ≤ 2147483647 ∧ 0 ≤ (x3 + 2) ∧ (x3 + 2) < ((G.2.2.2.2.2.2.1 : Nat) : Int) ∧ -2147483648 ≤ x3 + 3 ∧ x3 + 3 ≤ 2147483647 ∧ 0 ≤ (x3 + 3) ∧ (x3 + 3) < ((G.2.2.2.2.2.2.1 : Nat) : Int) ∧ S.1 x1 = 12 ∧ CT l G bX11_holder d mc ms [vr x1, vi ((G.2.2.2.2.2.2.2 (x3 + 1).toNat).toInt), vi ((G.2.2.2.2.2.2.2 (x3 + 2).toNat).toInt), vi ((G.2.2.2.2.2.2.2 (x3 + 3).toNat).toInt)] S V (fun z81 S81 V81 mc81 ms81 => -2147483648 ≤ x3 + 1 ∧ x3 + 1 ≤ 2147483647 ∧ 0 ≤ (x3 + 1) ∧ (x3 + 1) < ((G.2.2.2.2.2.2.1 : Nat) : Int) ∧ -2147483648 ≤ x3 + 2 ∧ x3 + 2 ≤ 2147483647 ∧ 0 ≤ (x3 + 2) ∧ (x3 + 2) < ((G.2.2.2.2.2.2.1 : Nat) : Int) ∧ -2147483648 ≤ x3 + 3 ∧ x3 + 3 ≤ 2147483647 ∧ 0 ≤ (x3 + 3) ∧ (x3 + 3) < ((G.2.2.2.2.2.2.1 : Nat) : Int) ∧ S81.1 x2 = 13 ∧ CT l G bX12_holder d mc81 ms81 [vr x2, vi ((G.2.2.2.2.2.2.2 (x3 + 1).toNat).toInt), vi ((G.2.2.2.2.2.2.2 (x3 + 2).toNat).toInt), vi ((G.2.2.2.2.2.2.2 (x3 + 3).toNat).toInt)] S81 V81 (fun z83 S83 V83 mc83 ms83 => (z81 = z83 → -2147483648 ≤ x3 + 5 ∧ x3 + 5 ≤ 2147483647 ∧ XJ l G bL_law Q d 18 [vr ((G.2.2.2.2.2.1 : Int) + 1), vr x1, vr x2, vi (x3 + 5)] [] S83 V83 mc83 ms83) ∧ (¬ (z81 = z83) → Q 0 S83 V83)))) ∧ (¬ (bAnd ((G.2.2.2.2.2.2.2 (x3).toNat).toInt) 31) = 13 → ((bAnd ((G.2.2.2.2.2.2.2 (x3).toNat).toInt) 31) = 14 → -2147483648 ≤ x3 + 1 ∧ x3 + 1 ≤ 2147483647 ∧ 0 ≤ (x3 + 1) ∧ (x3 + 1) < ((G.2.2.2.2.2.2.1 : Nat) : Int) ∧ -2147483648 ≤ x3 + 2 ∧ x3 + 2 ≤ 2147483647 ∧ 0 ≤ (x3 + 2) ∧ (x3 + 2) < ((G.2.2.2.2.2.2.1 : Nat) : Int) ∧ -2147483648 ≤ x3 + 3 ∧ x3 + 3 ≤ 2147483647 ∧ 0 ≤ (x3 + 3) ∧ (x3 + 3) < ((G.2.2.2.2.2.2.1 : Nat) : Int) ∧ -2147483648 ≤ x3 + 4 ∧ x3 + 4 ≤ 2147483647 ∧ 0 ≤ (x3 + 4) ∧ (x3 + 4) < ((G.2.2.2.2.2.2.1 : Nat) : Int) ∧ S.1 x1 = 12 ∧ CT l G bX11_branch d mc ms [vr x1, vi ((G.2.2.2.2.2.2.2 (x3 + 1).toNat).toInt), vi ((G.2.2.2.2.2.2.2 (x3 + 2).toNat).toInt), vi ((G.2.2.2.2.2.2.2 (x3 + 3).toNat).toInt), vi ((G.2.2.2.2.2.2.2 (x3 + 4).toNat).toInt)] S V (fun z87 S87 V87 mc87 ms87 => -2147483648 ≤ x3 + 1 ∧ x3 + 1 ≤ 2147483647 ∧ 0 ≤ (x3 + 1) ∧ (x3 + 1) < ((G.2.2.2.2.2.2.1 : Nat) : Int) ∧ -2147483648 ≤ x3 + 2 ∧ x3 + 2 ≤ 2147483647 ∧ 0 ≤ (x3 + 2) ∧ (x3 + 2) < ((G.2.2.2.2.2.2.1 : Nat) : Int) ∧ -2147483648 ≤ x3 + 3 ∧ x3 + 3 ≤ 2147483647 ∧ 0 ≤ (x3 + 3) ∧ (x3 + 3) < ((G.2.2.2.2.2.2.1 : Nat) : Int) ∧ -2147483648 ≤ x3 + 4 ∧ x3 + 4 ≤ 2147483647 ∧ 0 ≤ (x3 + 4) ∧ (x3 + 4) < ((G.2.2.2.2.2.2.1 : Nat) : Int) ∧ S87.1 x2 = 13 ∧ CT l G bX12_branch d mc87 ms87 [vr x2, vi ((G.2.2.2.2.2.2.2 (x3 + 1).toNat).toInt), vi ((G.2.2.2.2.2.2.2 (x3 + 2).toNat).toInt), vi ((G.2.2.2.2.2.2.2 (x3 + 3).toNat).toInt), vi ((G.2.2.2.2.2.2.2 (x3 + 4).toNat).toInt)] S87 V87 (fun z89 S89 V89 mc89 ms89 => (z87 = z89 → -2147483648 ≤ x3 + 5 ∧ x3 + 5 ≤ 2147483647 ∧ XJ l G bL_law Q d 18 [vr ((G.2.2.2.2.2.1 : Int) + 1), vr x1, vr x2, vi (x3 + 5)] [] S89 V89 mc89 ms89) ∧ (¬ (z87 = z89) → Q 0 S89 V89)))) ∧ (¬ (bAnd ((G.2.2.2.2.2.2.2 (x3).toNat).toInt) 31) = 14 → ((bAnd ((G.2.2.2.2.2.2.2 (x3).toNat).toInt) 31) = 15 → S.1 x1 = 12 ∧ CT l G bX11_out d mc ms [vr x1] S V (fun z93 S93 V93 mc93 ms93 => S93.1 x2 = 13 ∧ CT l G bX12_out d mc93 ms93 [vr x2] S93 V93 (fun z95 S95 V95 mc95 ms95 => (z93 = z95 → -2147483648 ≤ x3 + 5 ∧ x3 + 5 ≤ 2147483647 ∧ XJ l G bL_law Q d 18 [vr ((G.2.2.2.2.2.1 : Int) + 1), vr x1, vr x2, vi (x3 + 5)] [] S95 V95 mc95 ms95) ∧ (¬ (z93 = z95) → Q 0 S95 V95)))) ∧ (¬ (bAnd ((G.2.2.2.2.2.2.2 (x3).toNat).toInt) 31) = 15 → ((bAnd ((G.2.2.2.2.2.2.2 (x3).toNat).toInt) 31) = 16 → -2147483648 ≤ x3 + 1 ∧ x3 + 1 ≤ 2147483647 ∧ 0 ≤ (x3 + 1) ∧ (x3 + 1) < ((G.2.2.2.2.2.2.1 : Nat) : Int) ∧ -2147483648 ≤ x3 + 2 ∧ x3 + 2 ≤ 2147483647 ∧ 0 ≤ (x3 + 2) ∧ (x3 + 2) < ((G.2.2.2.2.2.2.1 : Nat) : Int) ∧ S.1 x1 = 12 ∧ CT l G bX11_cause d mc ms [vr x1, vi ((G.2.2.2.2.2.2.2 (x3 + 1).toNat).toInt), vi ((G.2.2.2.2.2.2.2 (x3 + 2).toNat).toInt)] S V (fun z99 S99 V99 mc99 ms99 => -2147483648 ≤ x3 + 1 ∧ x3 + 1 ≤ 2147483647 ∧ 0 ≤ (x3 + 1) ∧ (x3 + 1) < ((G.2.2.2.2.2.2.1 : Nat) : Int) ∧ -2147483648 ≤ x3 + 2 ∧ x3 + 2 ≤ 2147483647 ∧ 0 ≤ (x3 + 2) ∧ (x3 + 2) < ((G.2.2.2.2.2.2.1 : Nat) : Int) ∧ S99.1 x2 = 13 ∧ CT l G bX12_cause d mc99 ms99 [vr x2, vi ((G.2.2.2.2.2.2.2 (x3 + 1).toNat).toInt), vi ((G.2.2.2.2.2.2.2 (x3 + 2).toNat).toInt)] S99 V99 (fun z101 S101 V101 mc101 ms101 => (z99 = z101 → -2147483648 ≤ x3 + 5 ∧ x3 + 5 ≤ 2147483647 ∧ XJ l G bL_law Q d 18 [vr ((G.2.2.2.2.2.1 : Int) + 1), vr x1, vr x2, vi (x3 + 5)] [] S101 V101 mc101 ms101) ∧ (¬ (z99 = z101) → Q 0 S101 V101)))) ∧ (¬ (bAnd ((G.2.2.2.2.2.2.2 (x3).toNat).toInt) 31) = 16 → ((bAnd ((G.2.2.2.2.2.2.2 (x3).toNat).toInt) 31) = 17 → -2147483648 ≤ x3 + 1 ∧ x3 + 1 ≤ 2147483647 ∧ 0 ≤ (x3 + 1) ∧ (x3 + 1) < ((G.2.2.2.2.2.2.1 : Nat) : Int) ∧ -2147483648 ≤ x3 + 2 ∧ x3 + 2 ≤ 2147483647 ∧ 0 ≤ (x3 + 2) ∧ (x3 + 2) < ((G.2.2.2.2.2.2.1 : Nat) : Int) ∧ S.1 x1 = 12 ∧ CT l G bX11_start d mc ms [vr x1, vi ((G.2.2.2.2.2.2.2 (x3 + 1).toNat).toInt), vi ((G.2.2.2.2.2.2.2 (x3 + 2).toNat).toInt)] S V (fun z105 S105 V105 mc105 ms105 => -2147483648 ≤ x3 + 1 ∧ x3 + 1 ≤ 2147483647 ∧ 0 ≤ (x3 + 1) ∧ (x3 + 1) < ((G.2.2.2.2.2.2.1 : Nat) : Int) ∧ -2147483648 ≤ x3 + 2 ∧ x3 + 2 ≤ 2147483647 ∧ 0 ≤ (x3 + 2) ∧ (x3 + 2) < ((G.2.2.2.2.2.2.1 : Nat) : Int) ∧ S105.1 x2 = 13 ∧ CT l G bX12_start d mc105 ms105 [vr x2, vi ((G.2.2.2.2.2.2.2 (x3 + 1).toNat).toInt), vi ((G.2.2.2.2.2.2.2 (x3 + 2).toNat).toInt)] S105 V105 (fun z107 S107 V107 mc107 ms107 => (z105 = z107 → -2147483648 ≤ x3 + 5 ∧ x3 + 5 ≤ 2147483647 ∧ XJ l G bL_law Q d 18 [vr ((G.2.2.2.2.2.1 : Int) + 1), vr x1, vr x2, vi (x3 + 5)] [] S107 V107 mc107 ms107) ∧ (¬ (z105 = z107) → Q 0 S107 V107)))) ∧ (¬ (bAnd ((G.2.2.2.2.2.2.2 (x3).toNat).toInt) 31) = 17 → ((bAnd ((G.2.2.2.2.2.2.2 (x3).toNat).toInt) 31) = 18 → -2147483648 ≤ x3 + 1 ∧ x3 + 1 ≤ 2147483647 ∧ 0 ≤ (x3 + 1) ∧ (x3 + 1) < ((G.2.2.2.2.2.2.1 : Nat) : Int) ∧ -2147483648 ≤ x3 + 2 ∧ x3 + 2 ≤ 2147483647 ∧ 0 ≤ (x3 + 2) ∧ (x3 + 2) < ((G.2.2.2.2.2.2.1 : Nat) : Int) ∧ -2147483648 ≤ x3 + 3 ∧ x3 + 3 ≤ 2147483647 ∧ 0 ≤ (x3 + 3) ∧ (x3 + 3) < ((G.2.2.2.2.2.2.1 : Nat) : Int) ∧ S.1 x1 = 12 ∧ CT l G bX11_seen d mc ms [vr x1, vi ((G.2.2.2.2.2.2.2 (x3 + 1).toNat).toInt), vi ((G.2.2.2.2.2.2.2 (x3 + 2).toNat).toInt), vi ((G.2.2.2.2.2.2.2 (x3 + 3).toNat).toInt)] S V (fun z111 S111 V111 mc111 ms111 => -2147483648 ≤ x3 + 1 ∧ x3 + 1 ≤ 2147483647 ∧ 0 ≤ (x3 + 1) ∧ (x3 + 1) < ((G.2.2.2.2.2.2.1 : Nat) : Int) ∧ -2147483648 ≤ x3 + 2 ∧ x3 + 2 ≤ 2147483647 ∧ 0 ≤ (x3 + 2) ∧ (x3 + 2) < ((G.2.2.2.2.2.2.1 : Nat) : Int) ∧ -2147483648 ≤ x3 + 3 ∧ x3 + 3 ≤ 2147483647 ∧ 0 ≤ (x3 + 3) ∧ (x3 + 3) < ((G.2.2.2.2.2.2.1 : Nat) : Int) ∧ S111.1 x2 = 13 ∧ CT l G bX12_seen d mc111 ms111 [vr x2, vi ((G.2.2.2.2.2.2.2 (x3 + 1).toNat).toInt), vi ((G.2.2.2.2.2.2.2 (x3 + 2).toNat).toInt), vi ((G.2.2.2.2.2.2.2 (x3 + 3).toNat).toInt)] S111 V111 (fun z113 S113 V113 mc113 ms113 => (z111 = z113 → -2147483648 ≤ x3 + 5 ∧ x3 + 5 ≤ 2147483647 ∧ XJ l G bL_law Q d 18 [vr ((G.2.2.2.2.2.1 : Int) + 1), vr x1, vr x2, vi (x3 + 5)] [] S113 V113 mc113 ms113) ∧ (¬ (z111 = z113) → Q 0 S113 V113)))) ∧ (¬ (bAnd ((G.2.2.2.2.2.2.2 (x3).toNat).toInt) 31) = 18 → ((bAnd ((G.2.2.2.2.2.2.2 (x3).toNat).toInt) 31) = 19 → -2147483648 ≤ x3 + 1 ∧ x3 + 1 ≤ 2147483647 ∧ 0 ≤ (x3 + 1) ∧ (x3 + 1) < ((G.2.2.2.2.2.2.1 : Nat) : Int) ∧ -2147483648 ≤ x3 + 2 ∧ x3 + 2 ≤ 2147483647 ∧ 0 ≤ (x3 + 2) ∧ (x3 + 2) < ((G.2.2.2.2.2.2.1 : Nat) : Int) ∧ S.1 x1 = 12 ∧ CT l G bX11_set d mc ms [vr x1, vi ((G.2.2.2.2.2.2.2 (x3 + 1).toNat).toInt), vi ((G.2.2.2.2.2.2.2 (x3 + 2).toNat).toInt)] S V (fun z117 S117 V117 mc117 ms117 => -2147483648 ≤ x3 + 1 ∧ x3 + 1 ≤ 2147483647 ∧ 0 ≤ (x3 + 1) ∧ (x3 + 1) < ((G.2.2.2.2.2.2.1 : Nat) : Int) ∧ -2147483648 ≤ x3 + 2 ∧ x3 + 2 ≤ 2147483647 ∧ 0 ≤ (x3 + 2) ∧ (x3 + 2) < ((G.2.2.2.2.2.2.1 : Nat) : Int) ∧ S117.1 x2 = 13 ∧ CT l G bX12_set d mc117 ms117 [vr x2, vi ((G.2.2.2.2.2.2.2 (x3 + 1).toNat).toInt), vi ((G.2.2.2.2.2.2.2 (x3 + 2).toNat).toInt)] S117 V117 (fun z119 S119 V119 mc119 ms119 => (z117 = z119 → -2147483648 ≤ x3 + 5 ∧ x3 + 5 ≤ 2147483647 ∧ XJ l G bL_law Q d 18 [vr ((G.2.2.2.2.2.1 : Int) + 1), vr x1, vr x2, vi (x3 + 5)] [] S119 V119 mc119 ms119) ∧ (¬ (z117 = z119) → Q 0 S119 V119)))) ∧ (¬ (bAnd ((G.2.2.2.2.2.2.2 (x3).toNat).toInt) 31) = 19 → ((bAnd ((G.2.2.2.2.2.2.2 (x3).toNat).toInt) 31) = 20 → -2147483648 ≤ x3 + 1 ∧ x3 + 1 ≤ 2147483647 ∧ 0 ≤ (x3 + 1) ∧ (x3 + 1) < ((G.2.2.2.2.2.2.1 : Nat) : Int) ∧ -2147483648 ≤ x3 + 2 ∧ x3 + 2 ≤ 2147483647 ∧ 0 ≤ (x3 + 2) ∧ (x3 + 2) < ((G.2.2.2.2.2.2.1 : Nat) : Int) ∧ S.1 x1 = 12 ∧ CT l G bX11_add d mc ms [vr x1, vi ((G.2.2.2.2.2.2.2 (x3 + 1).toNat).toInt), vi ((G.2.2.2.2.2.2.2 (x3 + 2).toNat).toInt)] S V (fun z123 S123 V123 mc123 ms123 => -2147483648 ≤ x3 + 1 ∧ x3 + 1 ≤ 2147483647 ∧ 0 ≤ (x3 + 1) ∧ (x3 + 1) < ((G.2.2.2.2.2.2.1 : Nat) : Int) ∧ -2147483648 ≤ x3 + 2 ∧ x3 + 2 ≤ 2147483647 ∧ 0 ≤ (x3 + 2) ∧ (x3 + 2) < ((G.2.2.2.2.2.2.1 : Nat) : Int) ∧ S123.1 x2 = 13 ∧ CT l G bX12_add d mc123 ms123 [vr x2, vi ((G.2.2.2.2.2.2.2 (x3 + 1).toNat).toInt), vi ((G.2.2.2.2.2.2.2 (x3 + 2).toNat).toInt)] S123 V123 (fun z125 S125 V125 mc125 ms125 => (z123 = z125 → -2147483648 ≤ x3 + 5 ∧ x3 + 5 ≤ 2147483647 ∧ XJ l G bL_law Q d 18 [vr ((G.2.2.2.2.2.1 : Int) + 1), vr x1, vr x2, vi (x3 + 5)] [] S125 V125 mc125 ms125) ∧ (¬ (z123 = z125) → Q 0 S125 V125)))) ∧ (¬ (bAnd ((G.2.2.2.2.2.2.2 (x3).toNat).toInt) 31) = 20 → ((bAnd ((G.2.2.2.2.2.2.2 (x3).toNat).toInt) 31) = 21 → -2147483648 ≤ x3 + 1 ∧ x3 + 1 ≤ 2147483647 ∧ 0 ≤ (x3 + 1) ∧ (x3 + 1) < ((G.2.2.2.2.2.2.1 : Nat) : Int) ∧ -2147483648 ≤ x3 + 2 ∧ x3 + 2 ≤ 2147483647 ∧ 0 ≤ (x3 + 2) ∧ (x3 + 2) < ((G.2.2.2.2.2.2.1 : Nat) : Int) ∧ S.1 x1 = 12 ∧ CT l G bX11_take d mc ms [vr x1, vi ((G.2.2.2.2.2.2.2 (x3 + 1).toNat).toInt), vi ((G.2.2.2.2.2.2.2 (x3 + 2).toNat).toInt)] S V (fun z129 S129 V129 mc129 ms129 => -2147483648 ≤ x3 + 1 ∧ x3 + 1 ≤ 2147483647 ∧ 0 ≤ (x3 + 1) ∧ (x3 + 1) < ((G.2.2.2.2.2.2.1 : Nat) : Int) ∧ -2147483648 ≤ x3 + 2 ∧ x3 + 2 ≤ 2147483647 ∧ 0 ≤ (x3 + 2) ∧ (x3 + 2) < ((G.2.2.2.2.2.2.1 : Nat) : Int) ∧ S129.1 x2 = 13 ∧ CT l G bX12_take d mc129 ms129 [vr x2, vi ((G.2.2.2.2.2.2.2 (x3 + 1).toNat).toInt), vi ((G.2.2.2.2.2.2.2 (x3 + 2).toNat).toInt)] S129 V129 (fun z131 S131 V131 mc131 ms131 => (z129 = z131 → -2147483648 ≤ x3 + 5 ∧ x3 + 5 ≤ 2147483647 ∧ XJ l G bL_law Q d 18 [vr ((G.2.2.2.2.2.1 : Int) + 1), vr x1, vr x2, vi (x3 + 5)] [] S131 V131 mc131 ms131) ∧ (¬ (z129 = z131) → Q 0 S131 V131)))) ∧ (¬ (bAnd ((G.2.2.2.2.2.2.2 (x3).toNat).toInt) 31) = 21 → ((bAnd ((G.2.2.2.2.2.2.2 (x3).toNat).toInt) 31) = 22 → -2147483648 ≤ x3 + 1 ∧ x3 + 1 ≤ 2147483647 ∧ 0 ≤ (x3 + 1) ∧ (x3 + 1) < ((G.2.2.2.2.2.2.1 : Nat) : Int) ∧ -2147483648 ≤ x3 + 2 ∧ x3 + 2 ≤ 2147483647 ∧ 0 ≤ (x3 + 2) ∧ (x3 + 2) < ((G.2.2.2.2.2.2.1 : Nat) : Int) ∧ -2147483648 ≤ x3 + 3 ∧ x3 + 3 ≤ 2147483647 ∧ 0 ≤ (x3 + 3) ∧ (x3 + 3) < ((G.2.2.2.2.2.2.1 : Nat) : Int) ∧ S.1 x1 = 12 ∧ CT l G bX11_join d mc ms [vr x1, vi ((G.2.2.2.2.2.2.2 (x3 + 1).toNat).toInt), vi ((G.2.2.2.2.2.2.2 (x3 + 2).toNat).toInt), vi ((G.2.2.2.2.2.2.2 (x3 + 3).toNat).toInt)] S V (fun z135 S135 V135 mc135 ms135 => -2147483648 ≤ x3 + 1 ∧ x3 + 1 ≤ 2147483647 ∧ 0 ≤ (x3 + 1) ∧ (x3 + 1) < ((G.2.2.2.2.2.2.1 : Nat) : Int) ∧ -2147483648 ≤ x3 + 2 ∧ x3 + 2 ≤ 2147483647 ∧ 0 ≤ (x3 + 2) ∧ (x3 + 2) < ((G.2.2.2.2.2.2.1 : Nat) : Int) ∧ -2147483648 ≤ x3 + 3 ∧ x3 + 3 ≤ 2147483647 ∧ 0 ≤ (x3 + 3) ∧ (x3 + 3) < ((G.2.2.2.2.2.2.1 : Nat) : Int) ∧ S135.1 x2 = 13 ∧ CT l G bX12_join d mc135 ms135 [vr x2, vi ((G.2.2.2.2.2.2.2 (x3 + 1).toNat).toInt), vi ((G.2.2.2.2.2.2.2 (x3 + 2).toNat).toInt), vi ((G.2.2.2.2.2.2.2 (x3 + 3).toNat).toInt)] S135 V135 (fun z137 S137 V137 mc137 ms137 => (z135 = z137 → -2147483648 ≤ x3 + 5 ∧ x3 + 5 ≤ 2147483647 ∧ XJ l G bL_law Q d 18 [vr ((G.2.2.2.2.2.1 : Int) + 1), vr x1, vr x2, vi (x3 + 5)] [] S137 V137 mc137 ms137) ∧ (¬ (z135 = z137) → Q 0 S137 V137)))) ∧ (¬ (bAnd ((G.2.2.2.2.2.2.2 (x3).toNat).toInt) 31) = 22 → ((bAnd ((G.2.2.2.2.2.2.2 (x3).toNat).toInt) 31) = 23 → -2147483648 ≤ x3 + 1 ∧ x3 + 1 ≤ 2147483647 ∧ 0 ≤ (x3 + 1) ∧ (x3 + 1) < ((G.2.2.2.2.2.2.1 : Nat) : Int) ∧ -2147483648 ≤ x3 + 2 ∧ x3 + 2 ≤ 2147483647 ∧ 0 ≤ (x3 + 2) ∧ (x3 + 2) < ((G.2.2.2.2.2.2.1 : Nat) : Int) ∧ S.1 x1 = 12 ∧ CT l G bX11_member d mc ms [vr x1, vi ((G.2.2.2.2.2.2.2 (x3 + 1).toNat).toInt), vi ((G.2.2.2.2.2.2.2 (x3 + 2).toNat).toInt)] S V (fun z141 S141 V141 mc141 ms141 => -2147483648 ≤ x3 + 1 ∧ x3 + 1 ≤ 2147483647 ∧ 0 ≤ (x3 + 1) ∧ (x3 + 1) < ((G.2.2.2.2.2.2.1 : Nat) : Int) ∧ -2147483648 ≤ x3 + 2 ∧ x3 + 2 ≤ 2147483647 ∧ 0 ≤ (x3 + 2) ∧ (x3 + 2) < ((G.2.2.2.2.2.2.1 : Nat) : Int) ∧ S141.1 x2 = 13 ∧ CT l G bX12_member d mc141 ms141 [vr x2, vi ((G.2.2.2.2.2.2.2 (x3 + 1).toNat).toInt), vi ((G.2.2.2.2.2.2.2 (x3 + 2).toNat).toInt)] S141 V141 (fun z143 S143 V143 mc143 ms143 => (z141 = z143 → -2147483648 ≤ x3 + 5 ∧ x3 + 5 ≤ 2147483647 ∧ XJ l G bL_law Q d 18 [vr ((G.2.2.2.2.2.1 : Int) + 1), vr x1, vr x2, vi (x3 + 5)] [] S143 V143 mc143 ms143) ∧ (¬ (z141 = z143) → Q 0 S143 V143)))) ∧ (¬ (bAnd ((G.2.2.2.2.2.2.2 (x3).toNat).toInt) 31) = 23 → ((bAnd ((G.2.2.2.2.2.2.2 (x3).toNat).toInt) 31) = 24 → -2147483648 ≤ x3 + 1 ∧ x3 + 1 ≤ 2147483647 ∧ 0 ≤ (x3 + 1) ∧ (x3 + 1) < ((G.2.2.2.2.2.2.1 : Nat) : Int) ∧ -2147483648 ≤ x3 + 2 ∧ x3 + 2 ≤ 2147483647 ∧ 0 ≤ (x3 + 2) ∧ (x3 + 2) < ((G.2.2.2.2.2.2.1 : Nat) : Int) ∧ S.1 x1 = 12 ∧ CT l G bX11_map d mc ms [vr x1, vi ((G.2.2.2.2.2.2.2 (x3 + 1).toNat).toInt), vi ((G.2.2.2.2.2.2.2 (x3 + 2).toNat).toInt)] S V (fun z147 S147 V147 mc147 ms147 => -2147483648 ≤ x3 + 1 ∧ x3 + 1 ≤ 2147483647 ∧ 0 ≤ (x3 + 1) ∧ (x3 + 1) < ((G.2.2.2.2.2.2.1 : Nat) : Int) ∧ -2147483648 ≤ x3 + 2 ∧ x3 + 2 ≤ 2147483647 ∧ 0 ≤ (x3 + 2) ∧ (x3 + 2) < ((G.2.2.2.2.2.2.1 : Nat) : Int) ∧ S147.1 x2 = 13 ∧ CT l G bX12_map d mc147 ms147 [vr x2, vi ((G.2.2.2.2.2.2.2 (x3 + 1).toNat).toInt), vi ((G.2.2.2.2.2.2.2 (x3 + 2).toNat).toInt)] S147 V147 (fun z149 S149 V149 mc149 ms149 => (z147 = z149 → -2147483648 ≤ x3 + 5 ∧ x3 + 5 ≤ 2147483647 ∧ XJ l G bL_law Q d 18 [vr ((G.2.2.2.2.2.1 : Int) + 1), vr x1, vr x2, vi (x3 + 5)] [] S149 V149 mc149 ms149) ∧ (¬ (z147 = z149) → Q 0 S149 V149)))) ∧ (¬ (bAnd ((G.2.2.2.2.2.2.2 (x3).toNat).toInt) 31) = 24 → ((bAnd ((G.2.2.2.2.2.2.2 (x3).toNat).toInt) 31) = 25 → -2147483648 ≤ x3 + 1 ∧ x3 + 1 ≤ 2147483647 ∧ 0 ≤ (x3 + 1) ∧ (x3 + 1) < ((G.2.2.2.2.2.2.1 : Nat) : Int) ∧ -2147483648 ≤ x3 + 2 ∧ x3 + 2 ≤ 2147483647 ∧ 0 ≤ (x3 + 2) ∧ (x3 + 2) < ((G.2.2.2.2.2.2.1 : Nat) : Int) ∧ -2147483648 ≤ x3 + 3 ∧ x3 + 3 ≤ 2147483647 ∧ 0 ≤ (x3 + 3) ∧ (x3 + 3) < ((G.2.2.2.2.2.2.1 : Nat) : Int) ∧ S.1 x1 = 12 ∧ CT l G bX11_put d mc ms [vr x1, vi ((G.2.2.2.2.2.2.2 (x3 + 1).toNat).toInt), vi ((G.2.2.2.2.2.2.2 (x3 + 2).toNat).toInt), vi ((G.2.2.2.2.2.2.2 (x3 + 3).toNat).toInt)] S V (fun z153 S153 V153 mc153 ms153 => -2147483648 ≤ x3 + 1 ∧ x3 + 1 ≤ 2147483647 ∧ 0 ≤ (x3 + 1) ∧ (x3 + 1) < ((G.2.2.2.2.2.2.1 : Nat) : Int) ∧ -2147483648 ≤ x3 + 2 ∧ x3 + 2 ≤ 2147483647 ∧ 0 ≤ (x3 + 2) ∧ (x3 + 2) < ((G.2.2.2.2.2.2.1 : Nat) : Int) ∧ -2147483648 ≤ x3 + 3 ∧ x3 + 3 ≤ 2147483647 ∧ 0 ≤ (x3 + 3) ∧ (x3 + 3) < ((G.2.2.2.2.2.2.1 : Nat) : Int) ∧ S153.1 x2 = 13 ∧ CT l G bX12_put d mc153 ms153 [vr x2, vi ((G.2.2.2.2.2.2.2 (x3 + 1).toNat).toInt), vi ((G.2.2.2.2.2.2.2 (x3 + 2).toNat).toInt), vi ((G.2.2.2.2.2.2.2 (x3 + 3).toNat).toInt)] S153 V153 (fun z155 S155 V155 mc155 ms155 => (z153 = z155 → -2147483648 ≤ x3 + 5 ∧ x3 + 5 ≤ 2147483647 ∧ XJ l G bL_law Q d 18 [vr ((G.2.2.2.2.2.1 : Int) + 1), vr x1, vr x2, vi (x3 + 5)] [] S155 V155 mc155 ms155) ∧ (¬ (z153 = z155) → Q 0 S155 V155)))) ∧ (¬ (bAnd ((G.2.2.2.2.2.2.2 (x3).toNat).toInt) 31) = 25 → ((bAnd ((G.2.2.2.2.2.2.2 (x3).toNat).toInt) 31) = 26 → -2147483648 ≤ x3 + 1 ∧ x3 + 1 ≤ 2147483647 ∧ 0 ≤ (x3 + 1) ∧ (x3 + 1) < ((G.2.2.2.2.2.2.1 : Nat) : Int) ∧ -2147483648 ≤ x3 + 2 ∧ x3 + 2 ≤ 2147483647 ∧ 0 ≤ (x3 + 2) ∧ (x3 + 2) < ((G.2.2.2.2.2.2.1 : Nat) : Int) ∧ S.1 x1 = 12 ∧ CT l G bX11_get d mc ms [vr x1, vi ((G.2.2.2.2.2.2.2 (x3 + 1).toNat).toInt), vi ((G.2.2.2.2.2.2.2 (x3 + 2).toNat).toInt)] S V (fun z159 S159 V159 mc159 ms159 => -2147483648 ≤ x3 + 1 ∧ x3 + 1 ≤ 2147483647 ∧ 0 ≤ (x3 + 1) ∧ (x3 + 1) < ((G.2.2.2.2.2.2.1 : Nat) : Int) ∧ -2147483648 ≤ x3 + 2 ∧ x3 + 2 ≤ 2147483647 ∧ 0 ≤ (x3 + 2) ∧ (x3 + 2) < ((G.2.2.2.2.2.2.1 : Nat) : Int) ∧ S159.1 x2 = 13 ∧ CT l G bX12_get d mc159 ms159 [vr x2, vi ((G.2.2.2.2.2.2.2 (x3 + 1).toNat).toInt), vi ((G.2.2.2.2.2.2.2 (x3 + 2).toNat).toInt)] S159 V159 (fun z161 S161 V161 mc161 ms161 => (z159 = z161 → -2147483648 ≤ x3 + 5 ∧ x3 + 5 ≤ 2147483647 ∧ XJ l G bL_law Q d 18 [vr ((G.2.2.2.2.2.1 : Int) + 1), vr x1, vr x2, vi (x3 + 5)] [] S161 V161 mc161 ms161) ∧ (¬ (z159 = z161) → Q 0 S161 V161)))) ∧ (¬ (bAnd ((G.2.2.2.2.2.2.2 (x3).toNat).toInt) 31) = 26 → ((bAnd ((G.2.2.2.2.2.2.2 (x3).toNat).toInt) 31) = 27 → -2147483648 ≤ x3 + 1 ∧ x3 + 1 ≤ 2147483647 ∧ 0 ≤ (x3 + 1) ∧ (x3 + 1) < ((G.2.2.2.2.2.2.1 : Nat) : Int) ∧ S.1 x1 = 12 ∧ CT l G bX11_encode d mc ms [vr x1, vi ((G.2.2.2.2.2.2.2 (x3 + 1).toNat).toInt)] S V (fun z165 S165 V165 mc165 ms165 => -2147483648 ≤ x3 + 1 ∧ x3 + 1 ≤ 2147483647 ∧ 0 ≤ (x3 + 1) ∧ (x3 + 1) < ((G.2.2.2.2.2.2.1 : Nat) : Int) ∧ S165.1 x2 = 13 ∧ CT l G bX12_encode d mc165 ms165 [vr x2, vi ((G.2.2.2.2.2.2.2 (x3 + 1).toNat).toInt)] S165 V165 (fun z167 S167 V167 mc167 ms167 => (z165 = z167 → -2147483648 ≤ x3 + 5 ∧ x3 + 5 ≤ 2147483647 ∧ XJ l G bL_law Q d 18 [vr ((G.2.2.2.2.2.1 : Int) + 1), vr x1, vr x2, vi (x3 + 5)] [] S167 V167 mc167 ms167) ∧ (¬ (z165 = z167) → Q 0 S167 V167)))) ∧ (¬ (bAnd ((G.2.2.2.2.2.2.2 (x3).toNat).toInt) 31) = 27 → ((bAnd ((G.2.2.2.2.2.2.2 (x3).toNat).toInt) 31) = 28 → -2147483648 ≤ x3 + 1 ∧ x3 + 1 ≤ 2147483647 ∧ 0 ≤ (x3 + 1) ∧ (x3 + 1) < ((G.2.2.2.2.2.2.1 : Nat) : Int) ∧ -2147483648 ≤ x3 + 2 ∧ x3 + 2 ≤ 2147483647 ∧ 0 ≤ (x3 + 2) ∧ (x3 + 2) < ((G.2.2.2.2.2.2.1 : Nat) : Int) ∧ -2147483648 ≤ x3 + 3 ∧ x3 + 3 ≤ 2147483647 ∧ 0 ≤ (x3 + 3) ∧ (x3 + 3) < ((G.2.2.2.2.2.2.1 : Nat) : Int) ∧ S.1 x1 = 12 ∧ CT l G bX11_signal d mc ms [vr x1, vi ((G.2.2.2.2.2.2.2 (x3 + 1).toNat).toInt), vi ((G.2.2.2.2.2.2.2 (x3 + 2).toNat).toInt), vi ((G.2.2.2.2.2.2.2 (x3 + 3).toNat).toInt)] S V (fun z171 S171 V171 mc171 ms171 => -2147483648 ≤ x3 + 1 ∧ x3 + 1 ≤ 2147483647 ∧ 0 ≤ (x3 + 1) ∧ (x3 + 1) < ((G.2.2.2.2.2.2.1 : Nat) : Int) ∧ -2147483648 ≤ x3 + 2 ∧ x3 + 2 ≤ 2147483647 ∧ 0 ≤ (x3 + 2) ∧ (x3 + 2) < ((G.2.2.2.2.2.2.1 : Nat) : Int) ∧ -2147483648 ≤ x3 + 3 ∧ x3 + 3 ≤ 2147483647 ∧ 0 ≤ (x3 + 3) ∧ (x3 + 3) < ((G.2.2.2.2.2.2.1 : Nat) : Int) ∧ S171.1 x2 = 13 ∧ CT l G bX12_signal d mc171 ms171 [vr x2, vi ((G.2.2.2.2.2.2.2 (x3 + 1).toNat).toInt), vi ((G.2.2.2.2.2.2.2 (x3 + 2).toNat).toInt), vi ((G.2.2.2.2.2.2.2 (x3 + 3).toNat).toInt)] S171 V171 (fun z173 S173 V173 mc173 ms173 => (z171 = z173 → -2147483648 ≤ x3 + 5 ∧ x3 + 5 ≤ 2147483647 ∧ XJ l G bL_law Q d 18 [vr ((G.2.2.2.2.2.1 : Int) + 1), vr x1, vr x2, vi (x3 + 5)] [] S173 V173 mc173 ms173) ∧ (¬ (z171 = z173) → Q 0 S173 V173)))) ∧ (¬ (bAnd ((G.2.2.2.2.2.2.2 (x3).toNat).toInt) 31) = 28 → ((bAnd ((G.2.2.2.2.2.2.2 (x3).toNat).toInt) 31) = 29 → -2147483648 ≤ x3 + 1 ∧ x3 + 1 ≤ 2147483647 ∧ 0 ≤ (x3 + 1) ∧ (x3 + 1) < ((G.2.2.2.2.2.2.1 : Nat) : Int) ∧ S.1 x1 = 12 ∧ CT l G bX11_decode d mc ms [vr x1, vi ((G.2.2.2.2.2.2.2 (x3 + 1).toNat).toInt)] S V (fun z177 S177 V177 mc177 ms177 => -2147483648 ≤ x3 + 1 ∧ x3 + 1 ≤ 2147483647 ∧ 0 ≤ (x3 + 1) ∧ (x3 + 1) < ((G.2.2.2.2.2.2.1 : Nat) : Int) ∧ S177.1 x2 = 13 ∧ CT l G bX12_decode d mc177 ms177 [vr x2, vi ((G.2.2.2.2.2.2.2 (x3 + 1).toNat).toInt)] S177 V177 (fun z179 S179 V179 mc179 ms179 => (z177 = z179 → -2147483648 ≤ x3 + 5 ∧ x3 + 5 ≤ 2147483647 ∧ XJ l G bL_law Q d 18 [vr ((G.2.2.2.2.2.1 : Int) + 1), vr x1, vr x2, vi (x3 + 5)] [] S179 V179 mc179 ms179) ∧ (¬ (z177 = z179) → Q 0 S179 V179)))) ∧ (¬ (bAnd ((G.2.2.2.2.2.2.2 (x3).toNat).toInt) 31) = 29 → -2147483648 ≤ x3 + 5 ∧ x3 + 5 ≤ 2147483647 ∧ XJ l G bL_law Q d 18 [vr ((G.2.2.2.2.2.1 : Int) + 1), vr x1, vr x2, vi (x3 + 5)] [] S V mc ms)))))))))))))))))))))))))))))))) : XJ l G bL_law Q d 18 [vr ((G.2.2.2.2.2.1 : Int) + 1), vr x1, vr x2, vi x3] [] S V mc ms := by
  refine X_iload_n dL_law_18 rfl ?_
  refine X_aload_n dL_law_19 rfl ?_
  refine X_xlen dL_law_20 ?_
  refine X_iconst dL_law_21 (by decide) ?_
  refine X_isubN dL_law_22 h.1 h.2.1 ?_
  refine X_icmp_gt dL_law_23 (tgt := 1274) rfl (fun c1 => ?_) (fun c1 => ?_)
  · refine X_iconst dL_law_1274 (by decide) ?_
    exact X_ret (z := 1) dL_law_1275 rfl (fun _ => Or.inr rfl) (h.2.2.1 c1)
  · refine X_aload_n dL_law_26 rfl ?_
    refine X_iload_n dL_law_27 rfl ?_
    refine X_xget dL_law_28 (h.2.2.2 c1).1 (h.2.2.2 c1).2.1 ?_
    refine X_bipush dL_law_29 (by decide) (by decide) ?_
    refine X_iand dL_law_31 ?_
    by_cases c2 : (bAnd ((G.2.2.2.2.2.2.2 (x3).toNat).toInt) 31) = 0
    · refine X_table dL_law_32 168 136 (by rw [c2]; rfl) rfl ?_
      refine X_aload_n dL_law_168 rfl ?_
      refine X_aload_n dL_law_169 rfl ?_
      refine X_iload_n dL_law_170 rfl ?_
      refine X_iconst dL_law_171 (by decide) ?_
      refine X_iaddN dL_law_172 ((h.2.2.2 c1).2.2.1 c2).1 ((h.2.2.2 c1).2.2.1 c2).2.1 ?_
      refine X_xget dL_law_173 ((h.2.2.2 c1).2.2.1 c2).2.2.1 ((h.2.2.2 c1).2.2.1 c2).2.2.2.1 ?_
      refine X_i2l dL_law_174 ?_
      refine X_bipush dL_law_175 (by decide) (by decide) ?_
      refine X_lshl dL_law_177 ?_
      refine X_aload_n dL_law_178 rfl ?_
      refine X_iload_n dL_law_179 rfl ?_
      refine X_iconst dL_law_180 (by decide) ?_
      refine X_iaddN dL_law_181 ((h.2.2.2 c1).2.2.1 c2).2.2.2.2.1 ((h.2.2.2 c1).2.2.1 c2).2.2.2.2.2.1 ?_
      refine X_xget dL_law_182 ((h.2.2.2 c1).2.2.1 c2).2.2.2.2.2.2.1 ((h.2.2.2 c1).2.2.1 c2).2.2.2.2.2.2.2.1 ?_
      refine X_i2l dL_law_183 ?_
      refine X_ldc2 dL_law_184 kl_RL_13 (by decide) ?_
      refine X_land dL_law_187 ?_
      refine X_lor dL_law_188 ?_
      refine X_aload_n dL_law_189 rfl ?_
      refine X_iload_n dL_law_190 rfl ?_
      refine X_iconst dL_law_191 (by decide) ?_
      refine X_iaddN dL_law_192 ((h.2.2.2 c1).2.2.1 c2).2.2.2.2.2.2.2.2.1 ((h.2.2.2 c1).2.2.1 c2).2.2.2.2.2.2.2.2.2.1 ?_
      refine X_xget dL_law_193 ((h.2.2.2 c1).2.2.1 c2).2.2.2.2.2.2.2.2.2.2.1 ((h.2.2.2 c1).2.2.1 c2).2.2.2.2.2.2.2.2.2.2.2.1 ?_
      refine X_invV (ci := 11) (as := [vl (lOr (lShl ((G.2.2.2.2.2.2.2 (x3 + 1).toNat).toInt) 32) (lAnd ((G.2.2.2.2.2.2.2 (x3 + 2).toNat).toInt) 4294967295)), vi ((G.2.2.2.2.2.2.2 (x3 + 3).toNat).toInt)]) (st := []) okX11_feed dL_law_194 km_RL_15 rfl rfl (Nat.le_of_ble_eq_true rfl) rfl rfl ((h.2.2.2 c1).2.2.1 c2).2.2.2.2.2.2.2.2.2.2.2.2.1 (CT.imp ((h.2.2.2 c1).2.2.1 c2).2.2.2.2.2.2.2.2.2.2.2.2.2 (fun z3 S3 V3 mc3 ms3 hc4 => ?_))
      refine X_aload_n dL_law_197 rfl ?_
      refine X_aload_n dL_law_198 rfl ?_
      refine X_iload_n dL_law_199 rfl ?_
      refine X_iconst dL_law_200 (by decide) ?_
      refine X_iaddN dL_law_201 hc4.1 hc4.2.1 ?_
      refine X_xget dL_law_202 hc4.2.2.1 hc4.2.2.2.1 ?_
      refine X_i2l dL_law_203 ?_
      refine X_bipush dL_law_204 (by decide) (by decide) ?_
      refine X_lshl dL_law_206 ?_
      refine X_aload_n dL_law_207 rfl ?_
      refine X_iload_n dL_law_208 rfl ?_
      refine X_iconst dL_law_209 (by decide) ?_
      refine X_iaddN dL_law_210 hc4.2.2.2.2.1 hc4.2.2.2.2.2.1 ?_
      refine X_xget dL_law_211 hc4.2.2.2.2.2.2.1 hc4.2.2.2.2.2.2.2.1 ?_
      refine X_i2l dL_law_212 ?_
      refine X_ldc2 dL_law_213 kl_RL_13 (by decide) ?_
      refine X_land dL_law_216 ?_
      refine X_lor dL_law_217 ?_
      refine X_aload_n dL_law_218 rfl ?_
      refine X_iload_n dL_law_219 rfl ?_
      refine X_iconst dL_law_220 (by decide) ?_
      refine X_iaddN dL_law_221 hc4.2.2.2.2.2.2.2.2.1 hc4.2.2.2.2.2.2.2.2.2.1 ?_
      refine X_xget dL_law_222 hc4.2.2.2.2.2.2.2.2.2.2.1 hc4.2.2.2.2.2.2.2.2.2.2.2.1 ?_
      refine X_invV (ci := 12) (as := [vl (lOr (lShl ((G.2.2.2.2.2.2.2 (x3 + 1).toNat).toInt) 32) (lAnd ((G.2.2.2.2.2.2.2 (x3 + 2).toNat).toInt) 4294967295)), vi ((G.2.2.2.2.2.2.2 (x3 + 3).toNat).toInt)]) (st := [vi z3]) okX12_feed dL_law_223 km_RL_19 rfl rfl (Nat.le_of_ble_eq_true rfl) rfl rfl hc4.2.2.2.2.2.2.2.2.2.2.2.2.1 (CT.imp hc4.2.2.2.2.2.2.2.2.2.2.2.2.2 (fun z5 S5 V5 mc5 ms5 hc6 => ?_))
      refine X_icmp_eq dL_law_226 (tgt := 1268) rfl (fun c7 => ?_) (fun c7 => ?_)
      · refine X_iincN dL_law_1268 rfl (by decide) rfl (e := x3 + 5) rfl (hc6.1 c7).1 (hc6.1 c7).2.1 ?_
        refine X_goto dL_law_1271 (tgt := 18) rfl ?_
        exact (hc6.1 c7).2.2
      · refine X_iconst dL_law_229 (by decide) ?_
        exact X_ret (z := 0) dL_law_230 rfl (fun _ => Or.inl rfl) (hc6.2 c7)
    by_cases c8 : (bAnd ((G.2.2.2.2.2.2.2 (x3).toNat).toInt) 31) = 1
    · refine X_table dL_law_32 231 199 (by rw [c8]; rfl) rfl ?_
      refine X_aload_n dL_law_231 rfl ?_
      refine X_aload_n dL_law_232 rfl ?_
      refine X_iload_n dL_law_233 rfl ?_
      refine X_iconst dL_law_234 (by decide) ?_
      refine X_iaddN dL_law_235 (((h.2.2.2 c1).2.2.2 c2).1 c8).1 (((h.2.2.2 c1).2.2.2 c2).1 c8).2.1 ?_
      refine X_xget dL_law_236 (((h.2.2.2 c1).2.2.2 c2).1 c8).2.2.1 (((h.2.2.2 c1).2.2.2 c2).1 c8).2.2.2.1 ?_
      refine X_invV (ci := 11) (as := [vi ((G.2.2.2.2.2.2.2 (x3 + 1).toNat).toInt)]) (st := []) okX11_cut dL_law_237 km_RL_20 rfl rfl (Nat.le_of_ble_eq_true rfl) rfl rfl (((h.2.2.2 c1).2.2.2 c2).1 c8).2.2.2.2.1 (CT.imp (((h.2.2.2 c1).2.2.2 c2).1 c8).2.2.2.2.2 (fun z9 S9 V9 mc9 ms9 hc10 => ?_))
      refine X_aload_n dL_law_240 rfl ?_
      refine X_aload_n dL_law_241 rfl ?_
      refine X_iload_n dL_law_242 rfl ?_
      refine X_iconst dL_law_243 (by decide) ?_
      refine X_iaddN dL_law_244 hc10.1 hc10.2.1 ?_
      refine X_xget dL_law_245 hc10.2.2.1 hc10.2.2.2.1 ?_
      refine X_invV (ci := 12) (as := [vi ((G.2.2.2.2.2.2.2 (x3 + 1).toNat).toInt)]) (st := [vi z9]) okX12_cut dL_law_246 km_RL_24 rfl rfl (Nat.le_of_ble_eq_true rfl) rfl rfl hc10.2.2.2.2.1 (CT.imp hc10.2.2.2.2.2 (fun z11 S11 V11 mc11 ms11 hc12 => ?_))
      refine X_icmp_eq dL_law_249 (tgt := 1268) rfl (fun c13 => ?_) (fun c13 => ?_)
      · refine X_iincN dL_law_1268 rfl (by decide) rfl (e := x3 + 5) rfl (hc12.1 c13).1 (hc12.1 c13).2.1 ?_
        refine X_goto dL_law_1271 (tgt := 18) rfl ?_
        exact (hc12.1 c13).2.2
      · refine X_iconst dL_law_252 (by decide) ?_
        exact X_ret (z := 0) dL_law_253 rfl (fun _ => Or.inl rfl) (hc12.2 c13)
    by_cases c14 : (bAnd ((G.2.2.2.2.2.2.2 (x3).toNat).toInt) 31) = 2
    · refine X_table dL_law_32 254 222 (by rw [c14]; rfl) rfl ?_
      refine X_aload_n dL_law_254 rfl ?_
      refine X_invV (ci := 11) (as := []) (st := []) okX11_book dL_law_255 km_RL_25 rfl rfl (Nat.le_of_ble_eq_true rfl) rfl rfl ((((h.2.2.2 c1).2.2.2 c2).2 c8).1 c14).1 (CT.imp ((((h.2.2.2 c1).2.2.2 c2).2 c8).1 c14).2 (fun z15 S15 V15 mc15 ms15 hc16 => ?_))
      refine X_aload_n dL_law_258 rfl ?_
      refine X_invV (ci := 12) (as := []) (st := [vi z15]) okX12_book dL_law_259 km_RL_29 rfl rfl (Nat.le_of_ble_eq_true rfl) rfl rfl hc16.1 (CT.imp hc16.2 (fun z17 S17 V17 mc17 ms17 hc18 => ?_))
      refine X_icmp_eq dL_law_262 (tgt := 1268) rfl (fun c19 => ?_) (fun c19 => ?_)
      · refine X_iincN dL_law_1268 rfl (by decide) rfl (e := x3 + 5) rfl (hc18.1 c19).1 (hc18.1 c19).2.1 ?_
        refine X_goto dL_law_1271 (tgt := 18) rfl ?_
        exact (hc18.1 c19).2.2
      · refine X_iconst dL_law_265 (by decide) ?_
        exact X_ret (z := 0) dL_law_266 rfl (fun _ => Or.inl rfl) (hc18.2 c19)
    by_cases c20 : (bAnd ((G.2.2.2.2.2.2.2 (x3).toNat).toInt) 31) = 3
    · refine X_table dL_law_32 267 235 (by rw [c20]; rfl) rfl ?_
      refine X_aload_n dL_law_267 rfl ?_
      refine X_invV (ci := 11) (as := []) (st := []) okX11_wrong dL_law_268 km_RL_30 rfl rfl (Nat.le_of_ble_eq_true rfl) rfl rfl (((((h.2.2.2 c1).2.2.2 c2).2 c8).2 c14).1 c20).1 (CT.imp (((((h.2.2.2 c1).2.2.2 c2).2 c8).2 c14).1 c20).2 (fun z21 S21 V21 mc21 ms21 hc22 => ?_))
      refine X_aload_n dL_law_271 rfl ?_
      refine X_invV (ci := 12) (as := []) (st := [vi z21]) okX12_wrong dL_law_272 km_RL_33 rfl rfl (Nat.le_of_ble_eq_true rfl) rfl rfl hc22.1 (CT.imp hc22.2 (fun z23 S23 V23 mc23 ms23 hc24 => ?_))
      refine X_icmp_eq dL_law_275 (tgt := 1268) rfl (fun c25 => ?_) (fun c25 => ?_)
      · refine X_iincN dL_law_1268 rfl (by decide) rfl (e := x3 + 5) rfl (hc24.1 c25).1 (hc24.1 c25).2.1 ?_
        refine X_goto dL_law_1271 (tgt := 18) rfl ?_
        exact (hc24.1 c25).2.2
      · refine X_iconst dL_law_278 (by decide) ?_
        exact X_ret (z := 0) dL_law_279 rfl (fun _ => Or.inl rfl) (hc24.2 c25)
    by_cases c26 : (bAnd ((G.2.2.2.2.2.2.2 (x3).toNat).toInt) 31) = 4
    · refine X_table dL_law_32 280 248 (by rw [c26]; rfl) rfl ?_
      refine X_aload_n dL_law_280 rfl ?_
      refine X_aload_n dL_law_281 rfl ?_
      refine X_iload_n dL_law_282 rfl ?_
      refine X_iconst dL_law_283 (by decide) ?_
      refine X_iaddN dL_law_284 ((((((h.2.2.2 c1).2.2.2 c2).2 c8).2 c14).2 c20).1 c26).1 ((((((h.2.2.2 c1).2.2.2 c2).2 c8).2 c14).2 c20).1 c26).2.1 ?_
      refine X_xget dL_law_285 ((((((h.2.2.2 c1).2.2.2 c2).2 c8).2 c14).2 c20).1 c26).2.2.1 ((((((h.2.2.2 c1).2.2.2 c2).2 c8).2 c14).2 c20).1 c26).2.2.2.1 ?_
      refine X_aload_n dL_law_286 rfl ?_
      refine X_iload_n dL_law_287 rfl ?_
      refine X_iconst dL_law_288 (by decide) ?_
      refine X_iaddN dL_law_289 ((((((h.2.2.2 c1).2.2.2 c2).2 c8).2 c14).2 c20).1 c26).2.2.2.2.1 ((((((h.2.2.2 c1).2.2.2 c2).2 c8).2 c14).2 c20).1 c26).2.2.2.2.2.1 ?_
      refine X_xget dL_law_290 ((((((h.2.2.2 c1).2.2.2 c2).2 c8).2 c14).2 c20).1 c26).2.2.2.2.2.2.1 ((((((h.2.2.2 c1).2.2.2 c2).2 c8).2 c14).2 c20).1 c26).2.2.2.2.2.2.2.1 ?_
      refine X_invV (ci := 11) (as := [vi ((G.2.2.2.2.2.2.2 (x3 + 1).toNat).toInt), vi ((G.2.2.2.2.2.2.2 (x3 + 2).toNat).toInt)]) (st := []) okX11_told dL_law_291 km_RL_34 rfl rfl (Nat.le_of_ble_eq_true rfl) rfl rfl ((((((h.2.2.2 c1).2.2.2 c2).2 c8).2 c14).2 c20).1 c26).2.2.2.2.2.2.2.2.1 (CT.imp ((((((h.2.2.2 c1).2.2.2 c2).2 c8).2 c14).2 c20).1 c26).2.2.2.2.2.2.2.2.2 (fun z27 S27 V27 mc27 ms27 hc28 => ?_))
      refine X_aload_n dL_law_294 rfl ?_
      refine X_aload_n dL_law_295 rfl ?_
      refine X_iload_n dL_law_296 rfl ?_
      refine X_iconst dL_law_297 (by decide) ?_
      refine X_iaddN dL_law_298 hc28.1 hc28.2.1 ?_
      refine X_xget dL_law_299 hc28.2.2.1 hc28.2.2.2.1 ?_
      refine X_aload_n dL_law_300 rfl ?_
      refine X_iload_n dL_law_301 rfl ?_
      refine X_iconst dL_law_302 (by decide) ?_
      refine X_iaddN dL_law_303 hc28.2.2.2.2.1 hc28.2.2.2.2.2.1 ?_
      refine X_xget dL_law_304 hc28.2.2.2.2.2.2.1 hc28.2.2.2.2.2.2.2.1 ?_
      refine X_invV (ci := 12) (as := [vi ((G.2.2.2.2.2.2.2 (x3 + 1).toNat).toInt), vi ((G.2.2.2.2.2.2.2 (x3 + 2).toNat).toInt)]) (st := [vi z27]) okX12_told dL_law_305 km_RL_38 rfl rfl (Nat.le_of_ble_eq_true rfl) rfl rfl hc28.2.2.2.2.2.2.2.2.1 (CT.imp hc28.2.2.2.2.2.2.2.2.2 (fun z29 S29 V29 mc29 ms29 hc30 => ?_))
      refine X_icmp_eq dL_law_308 (tgt := 1268) rfl (fun c31 => ?_) (fun c31 => ?_)
      · refine X_iincN dL_law_1268 rfl (by decide) rfl (e := x3 + 5) rfl (hc30.1 c31).1 (hc30.1 c31).2.1 ?_
        refine X_goto dL_law_1271 (tgt := 18) rfl ?_
        exact (hc30.1 c31).2.2
      · refine X_iconst dL_law_311 (by decide) ?_
        exact X_ret (z := 0) dL_law_312 rfl (fun _ => Or.inl rfl) (hc30.2 c31)
    by_cases c32 : (bAnd ((G.2.2.2.2.2.2.2 (x3).toNat).toInt) 31) = 5
    · refine X_table dL_law_32 313 281 (by rw [c32]; rfl) rfl ?_
      refine X_aload_n dL_law_313 rfl ?_
      refine X_aload_n dL_law_314 rfl ?_
      refine X_iload_n dL_law_315 rfl ?_
      refine X_iconst dL_law_316 (by decide) ?_
      refine X_iaddN dL_law_317 (((((((h.2.2.2 c1).2.2.2 c2).2 c8).2 c14).2 c20).2 c26).1 c32).1 (((((((h.2.2.2 c1).2.2.2 c2).2 c8).2 c14).2 c20).2 c26).1 c32).2.1 ?_
      refine X_xget dL_law_318 (((((((h.2.2.2 c1).2.2.2 c2).2 c8).2 c14).2 c20).2 c26).1 c32).2.2.1 (((((((h.2.2.2 c1).2.2.2 c2).2 c8).2 c14).2 c20).2 c26).1 c32).2.2.2.1 ?_
      refine X_aload_n dL_law_319 rfl ?_
      refine X_iload_n dL_law_320 rfl ?_
      refine X_iconst dL_law_321 (by decide) ?_
      refine X_iaddN dL_law_322 (((((((h.2.2.2 c1).2.2.2 c2).2 c8).2 c14).2 c20).2 c26).1 c32).2.2.2.2.1 (((((((h.2.2.2 c1).2.2.2 c2).2 c8).2 c14).2 c20).2 c26).1 c32).2.2.2.2.2.1 ?_
      refine X_xget dL_law_323 (((((((h.2.2.2 c1).2.2.2 c2).2 c8).2 c14).2 c20).2 c26).1 c32).2.2.2.2.2.2.1 (((((((h.2.2.2 c1).2.2.2 c2).2 c8).2 c14).2 c20).2 c26).1 c32).2.2.2.2.2.2.2.1 ?_
      refine X_aload_n dL_law_324 rfl ?_
      refine X_iload_n dL_law_325 rfl ?_
      refine X_iconst dL_law_326 (by decide) ?_
      refine X_iaddN dL_law_327 (((((((h.2.2.2 c1).2.2.2 c2).2 c8).2 c14).2 c20).2 c26).1 c32).2.2.2.2.2.2.2.2.1 (((((((h.2.2.2 c1).2.2.2 c2).2 c8).2 c14).2 c20).2 c26).1 c32).2.2.2.2.2.2.2.2.2.1 ?_
      refine X_xget dL_law_328 (((((((h.2.2.2 c1).2.2.2 c2).2 c8).2 c14).2 c20).2 c26).1 c32).2.2.2.2.2.2.2.2.2.2.1 (((((((h.2.2.2 c1).2.2.2 c2).2 c8).2 c14).2 c20).2 c26).1 c32).2.2.2.2.2.2.2.2.2.2.2.1 ?_
      refine X_invV (ci := 11) (as := [vi ((G.2.2.2.2.2.2.2 (x3 + 1).toNat).toInt), vi ((G.2.2.2.2.2.2.2 (x3 + 2).toNat).toInt), vi ((G.2.2.2.2.2.2.2 (x3 + 3).toNat).toInt)]) (st := []) okX11_about dL_law_329 km_RL_39 rfl rfl (Nat.le_of_ble_eq_true rfl) rfl rfl (((((((h.2.2.2 c1).2.2.2 c2).2 c8).2 c14).2 c20).2 c26).1 c32).2.2.2.2.2.2.2.2.2.2.2.2.1 (CT.imp (((((((h.2.2.2 c1).2.2.2 c2).2 c8).2 c14).2 c20).2 c26).1 c32).2.2.2.2.2.2.2.2.2.2.2.2.2 (fun z33 S33 V33 mc33 ms33 hc34 => ?_))
      refine X_aload_n dL_law_332 rfl ?_
      refine X_aload_n dL_law_333 rfl ?_
      refine X_iload_n dL_law_334 rfl ?_
      refine X_iconst dL_law_335 (by decide) ?_
      refine X_iaddN dL_law_336 hc34.1 hc34.2.1 ?_
      refine X_xget dL_law_337 hc34.2.2.1 hc34.2.2.2.1 ?_
      refine X_aload_n dL_law_338 rfl ?_
      refine X_iload_n dL_law_339 rfl ?_
      refine X_iconst dL_law_340 (by decide) ?_
      refine X_iaddN dL_law_341 hc34.2.2.2.2.1 hc34.2.2.2.2.2.1 ?_
      refine X_xget dL_law_342 hc34.2.2.2.2.2.2.1 hc34.2.2.2.2.2.2.2.1 ?_
      refine X_aload_n dL_law_343 rfl ?_
      refine X_iload_n dL_law_344 rfl ?_
      refine X_iconst dL_law_345 (by decide) ?_
      refine X_iaddN dL_law_346 hc34.2.2.2.2.2.2.2.2.1 hc34.2.2.2.2.2.2.2.2.2.1 ?_
      refine X_xget dL_law_347 hc34.2.2.2.2.2.2.2.2.2.2.1 hc34.2.2.2.2.2.2.2.2.2.2.2.1 ?_
      refine X_invV (ci := 12) (as := [vi ((G.2.2.2.2.2.2.2 (x3 + 1).toNat).toInt), vi ((G.2.2.2.2.2.2.2 (x3 + 2).toNat).toInt), vi ((G.2.2.2.2.2.2.2 (x3 + 3).toNat).toInt)]) (st := [vi z33]) okX12_about dL_law_348 km_RL_43 rfl rfl (Nat.le_of_ble_eq_true rfl) rfl rfl hc34.2.2.2.2.2.2.2.2.2.2.2.2.1 (CT.imp hc34.2.2.2.2.2.2.2.2.2.2.2.2.2 (fun z35 S35 V35 mc35 ms35 hc36 => ?_))
      refine X_icmp_eq dL_law_351 (tgt := 1268) rfl (fun c37 => ?_) (fun c37 => ?_)
      · refine X_iincN dL_law_1268 rfl (by decide) rfl (e := x3 + 5) rfl (hc36.1 c37).1 (hc36.1 c37).2.1 ?_
        refine X_goto dL_law_1271 (tgt := 18) rfl ?_
        exact (hc36.1 c37).2.2
      · refine X_iconst dL_law_354 (by decide) ?_
        exact X_ret (z := 0) dL_law_355 rfl (fun _ => Or.inl rfl) (hc36.2 c37)
    by_cases c38 : (bAnd ((G.2.2.2.2.2.2.2 (x3).toNat).toInt) 31) = 6
    · refine X_table dL_law_32 356 324 (by rw [c38]; rfl) rfl ?_
      refine X_aload_n dL_law_356 rfl ?_
      refine X_aload_n dL_law_357 rfl ?_
      refine X_iload_n dL_law_358 rfl ?_
      refine X_iconst dL_law_359 (by decide) ?_
      refine X_iaddN dL_law_360 ((((((((h.2.2.2 c1).2.2.2 c2).2 c8).2 c14).2 c20).2 c26).2 c32).1 c38).1 ((((((((h.2.2.2 c1).2.2.2 c2).2 c8).2 c14).2 c20).2 c26).2 c32).1 c38).2.1 ?_
      refine X_xget dL_law_361 ((((((((h.2.2.2 c1).2.2.2 c2).2 c8).2 c14).2 c20).2 c26).2 c32).1 c38).2.2.1 ((((((((h.2.2.2 c1).2.2.2 c2).2 c8).2 c14).2 c20).2 c26).2 c32).1 c38).2.2.2.1 ?_
      refine X_aload_n dL_law_362 rfl ?_
      refine X_iload_n dL_law_363 rfl ?_
      refine X_iconst dL_law_364 (by decide) ?_
      refine X_iaddN dL_law_365 ((((((((h.2.2.2 c1).2.2.2 c2).2 c8).2 c14).2 c20).2 c26).2 c32).1 c38).2.2.2.2.1 ((((((((h.2.2.2 c1).2.2.2 c2).2 c8).2 c14).2 c20).2 c26).2 c32).1 c38).2.2.2.2.2.1 ?_
      refine X_xget dL_law_366 ((((((((h.2.2.2 c1).2.2.2 c2).2 c8).2 c14).2 c20).2 c26).2 c32).1 c38).2.2.2.2.2.2.1 ((((((((h.2.2.2 c1).2.2.2 c2).2 c8).2 c14).2 c20).2 c26).2 c32).1 c38).2.2.2.2.2.2.2.1 ?_
      refine X_invV (ci := 11) (as := [vi ((G.2.2.2.2.2.2.2 (x3 + 1).toNat).toInt), vi ((G.2.2.2.2.2.2.2 (x3 + 2).toNat).toInt)]) (st := []) okX11_state dL_law_367 km_RL_44 rfl rfl (Nat.le_of_ble_eq_true rfl) rfl rfl ((((((((h.2.2.2 c1).2.2.2 c2).2 c8).2 c14).2 c20).2 c26).2 c32).1 c38).2.2.2.2.2.2.2.2.1 (CT.imp ((((((((h.2.2.2 c1).2.2.2 c2).2 c8).2 c14).2 c20).2 c26).2 c32).1 c38).2.2.2.2.2.2.2.2.2 (fun z39 S39 V39 mc39 ms39 hc40 => ?_))
      refine X_aload_n dL_law_370 rfl ?_
      refine X_aload_n dL_law_371 rfl ?_
      refine X_iload_n dL_law_372 rfl ?_
      refine X_iconst dL_law_373 (by decide) ?_
      refine X_iaddN dL_law_374 hc40.1 hc40.2.1 ?_
      refine X_xget dL_law_375 hc40.2.2.1 hc40.2.2.2.1 ?_
      refine X_aload_n dL_law_376 rfl ?_
      refine X_iload_n dL_law_377 rfl ?_
      refine X_iconst dL_law_378 (by decide) ?_
      refine X_iaddN dL_law_379 hc40.2.2.2.2.1 hc40.2.2.2.2.2.1 ?_
      refine X_xget dL_law_380 hc40.2.2.2.2.2.2.1 hc40.2.2.2.2.2.2.2.1 ?_
      refine X_invV (ci := 12) (as := [vi ((G.2.2.2.2.2.2.2 (x3 + 1).toNat).toInt), vi ((G.2.2.2.2.2.2.2 (x3 + 2).toNat).toInt)]) (st := [vi z39]) okX12_state dL_law_381 km_RL_47 rfl rfl (Nat.le_of_ble_eq_true rfl) rfl rfl hc40.2.2.2.2.2.2.2.2.1 (CT.imp hc40.2.2.2.2.2.2.2.2.2 (fun z41 S41 V41 mc41 ms41 hc42 => ?_))
      refine X_icmp_eq dL_law_384 (tgt := 1268) rfl (fun c43 => ?_) (fun c43 => ?_)
      · refine X_iincN dL_law_1268 rfl (by decide) rfl (e := x3 + 5) rfl (hc42.1 c43).1 (hc42.1 c43).2.1 ?_
        refine X_goto dL_law_1271 (tgt := 18) rfl ?_
        exact (hc42.1 c43).2.2
      · refine X_iconst dL_law_387 (by decide) ?_
        exact X_ret (z := 0) dL_law_388 rfl (fun _ => Or.inl rfl) (hc42.2 c43)
    by_cases c44 : (bAnd ((G.2.2.2.2.2.2.2 (x3).toNat).toInt) 31) = 7
    · refine X_table dL_law_32 389 357 (by rw [c44]; rfl) rfl ?_
      refine X_aload_n dL_law_389 rfl ?_
      refine X_aload_n dL_law_390 rfl ?_
      refine X_iload_n dL_law_391 rfl ?_
      refine X_iconst dL_law_392 (by decide) ?_
      refine X_iaddN dL_law_393 (((((((((h.2.2.2 c1).2.2.2 c2).2 c8).2 c14).2 c20).2 c26).2 c32).2 c38).1 c44).1 (((((((((h.2.2.2 c1).2.2.2 c2).2 c8).2 c14).2 c20).2 c26).2 c32).2 c38).1 c44).2.1 ?_
      refine X_xget dL_law_394 (((((((((h.2.2.2 c1).2.2.2 c2).2 c8).2 c14).2 c20).2 c26).2 c32).2 c38).1 c44).2.2.1 (((((((((h.2.2.2 c1).2.2.2 c2).2 c8).2 c14).2 c20).2 c26).2 c32).2 c38).1 c44).2.2.2.1 ?_
      refine X_aload_n dL_law_395 rfl ?_
      refine X_iload_n dL_law_396 rfl ?_
      refine X_iconst dL_law_397 (by decide) ?_
      refine X_iaddN dL_law_398 (((((((((h.2.2.2 c1).2.2.2 c2).2 c8).2 c14).2 c20).2 c26).2 c32).2 c38).1 c44).2.2.2.2.1 (((((((((h.2.2.2 c1).2.2.2 c2).2 c8).2 c14).2 c20).2 c26).2 c32).2 c38).1 c44).2.2.2.2.2.1 ?_
      refine X_xget dL_law_399 (((((((((h.2.2.2 c1).2.2.2 c2).2 c8).2 c14).2 c20).2 c26).2 c32).2 c38).1 c44).2.2.2.2.2.2.1 (((((((((h.2.2.2 c1).2.2.2 c2).2 c8).2 c14).2 c20).2 c26).2 c32).2 c38).1 c44).2.2.2.2.2.2.2.1 ?_
      refine X_aload_n dL_law_400 rfl ?_
      refine X_iload_n dL_law_401 rfl ?_
      refine X_iconst dL_law_402 (by decide) ?_
      refine X_iaddN dL_law_403 (((((((((h.2.2.2 c1).2.2.2 c2).2 c8).2 c14).2 c20).2 c26).2 c32).2 c38).1 c44).2.2.2.2.2.2.2.2.1 (((((((((h.2.2.2 c1).2.2.2 c2).2 c8).2 c14).2 c20).2 c26).2 c32).2 c38).1 c44).2.2.2.2.2.2.2.2.2.1 ?_
      refine X_xget dL_law_404 (((((((((h.2.2.2 c1).2.2.2 c2).2 c8).2 c14).2 c20).2 c26).2 c32).2 c38).1 c44).2.2.2.2.2.2.2.2.2.2.1 (((((((((h.2.2.2 c1).2.2.2 c2).2 c8).2 c14).2 c20).2 c26).2 c32).2 c38).1 c44).2.2.2.2.2.2.2.2.2.2.2.1 ?_
      refine X_aload_n dL_law_405 rfl ?_
      refine X_iload_n dL_law_406 rfl ?_
      refine X_iconst dL_law_407 (by decide) ?_
      refine X_iaddN dL_law_408 (((((((((h.2.2.2 c1).2.2.2 c2).2 c8).2 c14).2 c20).2 c26).2 c32).2 c38).1 c44).2.2.2.2.2.2.2.2.2.2.2.2.1 (((((((((h.2.2.2 c1).2.2.2 c2).2 c8).2 c14).2 c20).2 c26).2 c32).2 c38).1 c44).2.2.2.2.2.2.2.2.2.2.2.2.2.1 ?_
      refine X_xget dL_law_409 (((((((((h.2.2.2 c1).2.2.2 c2).2 c8).2 c14).2 c20).2 c26).2 c32).2 c38).1 c44).2.2.2.2.2.2.2.2.2.2.2.2.2.2.1 (((((((((h.2.2.2 c1).2.2.2 c2).2 c8).2 c14).2 c20).2 c26).2 c32).2 c38).1 c44).2.2.2.2.2.2.2.2.2.2.2.2.2.2.2.1 ?_
      refine X_invV (ci := 11) (as := [vi ((G.2.2.2.2.2.2.2 (x3 + 1).toNat).toInt), vi ((G.2.2.2.2.2.2.2 (x3 + 2).toNat).toInt), vi ((G.2.2.2.2.2.2.2 (x3 + 3).toNat).toInt), vi ((G.2.2.2.2.2.2.2 (x3 + 4).toNat).toInt)]) (st := []) okX11_letter dL_law_410 km_RL_48 rfl rfl (Nat.le_of_ble_eq_true rfl) rfl rfl (((((((((h.2.2.2 c1).2.2.2 c2).2 c8).2 c14).2 c20).2 c26).2 c32).2 c38).1 c44).2.2.2.2.2.2.2.2.2.2.2.2.2.2.2.2.1 (CT.imp (((((((((h.2.2.2 c1).2.2.2 c2).2 c8).2 c14).2 c20).2 c26).2 c32).2 c38).1 c44).2.2.2.2.2.2.2.2.2.2.2.2.2.2.2.2.2 (fun z45 S45 V45 mc45 ms45 hc46 => ?_))
      refine X_aload_n dL_law_413 rfl ?_
      refine X_aload_n dL_law_414 rfl ?_
      refine X_iload_n dL_law_415 rfl ?_
      refine X_iconst dL_law_416 (by decide) ?_
      refine X_iaddN dL_law_417 hc46.1 hc46.2.1 ?_
      refine X_xget dL_law_418 hc46.2.2.1 hc46.2.2.2.1 ?_
      refine X_aload_n dL_law_419 rfl ?_
      refine X_iload_n dL_law_420 rfl ?_
      refine X_iconst dL_law_421 (by decide) ?_
      refine X_iaddN dL_law_422 hc46.2.2.2.2.1 hc46.2.2.2.2.2.1 ?_
      refine X_xget dL_law_423 hc46.2.2.2.2.2.2.1 hc46.2.2.2.2.2.2.2.1 ?_
      refine X_aload_n dL_law_424 rfl ?_
      refine X_iload_n dL_law_425 rfl ?_
      refine X_iconst dL_law_426 (by decide) ?_
      refine X_iaddN dL_law_427 hc46.2.2.2.2.2.2.2.2.1 hc46.2.2.2.2.2.2.2.2.2.1 ?_
      refine X_xget dL_law_428 hc46.2.2.2.2.2.2.2.2.2.2.1 hc46.2.2.2.2.2.2.2.2.2.2.2.1 ?_
      refine X_aload_n dL_law_429 rfl ?_
      refine X_iload_n dL_law_430 rfl ?_
      refine X_iconst dL_law_431 (by decide) ?_
      refine X_iaddN dL_law_432 hc46.2.2.2.2.2.2.2.2.2.2.2.2.1 hc46.2.2.2.2.2.2.2.2.2.2.2.2.2.1 ?_
      refine X_xget dL_law_433 hc46.2.2.2.2.2.2.2.2.2.2.2.2.2.2.1 hc46.2.2.2.2.2.2.2.2.2.2.2.2.2.2.2.1 ?_
      refine X_invV (ci := 12) (as := [vi ((G.2.2.2.2.2.2.2 (x3 + 1).toNat).toInt), vi ((G.2.2.2.2.2.2.2 (x3 + 2).toNat).toInt), vi ((G.2.2.2.2.2.2.2 (x3 + 3).toNat).toInt), vi ((G.2.2.2.2.2.2.2 (x3 + 4).toNat).toInt)]) (st := [vi z45]) okX12_letter dL_law_434 km_RL_52 rfl rfl (Nat.le_of_ble_eq_true rfl) rfl rfl hc46.2.2.2.2.2.2.2.2.2.2.2.2.2.2.2.2.1 (CT.imp hc46.2.2.2.2.2.2.2.2.2.2.2.2.2.2.2.2.2 (fun z47 S47 V47 mc47 ms47 hc48 => ?_))
      refine X_icmp_eq dL_law_437 (tgt := 1268) rfl (fun c49 => ?_) (fun c49 => ?_)
      · refine X_iincN dL_law_1268 rfl (by decide) rfl (e := x3 + 5) rfl (hc48.1 c49).1 (hc48.1 c49).2.1 ?_
        refine X_goto dL_law_1271 (tgt := 18) rfl ?_
        exact (hc48.1 c49).2.2
      · refine X_iconst dL_law_440 (by decide) ?_
        exact X_ret (z := 0) dL_law_441 rfl (fun _ => Or.inl rfl) (hc48.2 c49)
    by_cases c50 : (bAnd ((G.2.2.2.2.2.2.2 (x3).toNat).toInt) 31) = 8
    · refine X_table dL_law_32 442 410 (by rw [c50]; rfl) rfl ?_
      refine X_aload_n dL_law_442 rfl ?_
      refine X_aload_n dL_law_443 rfl ?_
      refine X_iload_n dL_law_444 rfl ?_
      refine X_iconst dL_law_445 (by decide) ?_
      refine X_iaddN dL_law_446 ((((((((((h.2.2.2 c1).2.2.2 c2).2 c8).2 c14).2 c20).2 c26).2 c32).2 c38).2 c44).1 c50).1 ((((((((((h.2.2.2 c1).2.2.2 c2).2 c8).2 c14).2 c20).2 c26).2 c32).2 c38).2 c44).1 c50).2.1 ?_
      refine X_xget dL_law_447 ((((((((((h.2.2.2 c1).2.2.2 c2).2 c8).2 c14).2 c20).2 c26).2 c32).2 c38).2 c44).1 c50).2.2.1 ((((((((((h.2.2.2 c1).2.2.2 c2).2 c8).2 c14).2 c20).2 c26).2 c32).2 c38).2 c44).1 c50).2.2.2.1 ?_
      refine X_aload_n dL_law_448 rfl ?_
      refine X_iload_n dL_law_449 rfl ?_
      refine X_iconst dL_law_450 (by decide) ?_
      refine X_iaddN dL_law_451 ((((((((((h.2.2.2 c1).2.2.2 c2).2 c8).2 c14).2 c20).2 c26).2 c32).2 c38).2 c44).1 c50).2.2.2.2.1 ((((((((((h.2.2.2 c1).2.2.2 c2).2 c8).2 c14).2 c20).2 c26).2 c32).2 c38).2 c44).1 c50).2.2.2.2.2.1 ?_
      refine X_xget dL_law_452 ((((((((((h.2.2.2 c1).2.2.2 c2).2 c8).2 c14).2 c20).2 c26).2 c32).2 c38).2 c44).1 c50).2.2.2.2.2.2.1 ((((((((((h.2.2.2 c1).2.2.2 c2).2 c8).2 c14).2 c20).2 c26).2 c32).2 c38).2 c44).1 c50).2.2.2.2.2.2.2.1 ?_
      refine X_aload_n dL_law_453 rfl ?_
      refine X_iload_n dL_law_454 rfl ?_
      refine X_iconst dL_law_455 (by decide) ?_
      refine X_iaddN dL_law_456 ((((((((((h.2.2.2 c1).2.2.2 c2).2 c8).2 c14).2 c20).2 c26).2 c32).2 c38).2 c44).1 c50).2.2.2.2.2.2.2.2.1 ((((((((((h.2.2.2 c1).2.2.2 c2).2 c8).2 c14).2 c20).2 c26).2 c32).2 c38).2 c44).1 c50).2.2.2.2.2.2.2.2.2.1 ?_
      refine X_xget dL_law_457 ((((((((((h.2.2.2 c1).2.2.2 c2).2 c8).2 c14).2 c20).2 c26).2 c32).2 c38).2 c44).1 c50).2.2.2.2.2.2.2.2.2.2.1 ((((((((((h.2.2.2 c1).2.2.2 c2).2 c8).2 c14).2 c20).2 c26).2 c32).2 c38).2 c44).1 c50).2.2.2.2.2.2.2.2.2.2.2.1 ?_
      refine X_aload_n dL_law_458 rfl ?_
      refine X_iload_n dL_law_459 rfl ?_
      refine X_iconst dL_law_460 (by decide) ?_
      refine X_iaddN dL_law_461 ((((((((((h.2.2.2 c1).2.2.2 c2).2 c8).2 c14).2 c20).2 c26).2 c32).2 c38).2 c44).1 c50).2.2.2.2.2.2.2.2.2.2.2.2.1 ((((((((((h.2.2.2 c1).2.2.2 c2).2 c8).2 c14).2 c20).2 c26).2 c32).2 c38).2 c44).1 c50).2.2.2.2.2.2.2.2.2.2.2.2.2.1 ?_
      refine X_xget dL_law_462 ((((((((((h.2.2.2 c1).2.2.2 c2).2 c8).2 c14).2 c20).2 c26).2 c32).2 c38).2 c44).1 c50).2.2.2.2.2.2.2.2.2.2.2.2.2.2.1 ((((((((((h.2.2.2 c1).2.2.2 c2).2 c8).2 c14).2 c20).2 c26).2 c32).2 c38).2 c44).1 c50).2.2.2.2.2.2.2.2.2.2.2.2.2.2.2.1 ?_
      refine X_invV (ci := 11) (as := [vi ((G.2.2.2.2.2.2.2 (x3 + 1).toNat).toInt), vi ((G.2.2.2.2.2.2.2 (x3 + 2).toNat).toInt), vi ((G.2.2.2.2.2.2.2 (x3 + 3).toNat).toInt), vi ((G.2.2.2.2.2.2.2 (x3 + 4).toNat).toInt)]) (st := []) okX11_body dL_law_463 km_RL_53 rfl rfl (Nat.le_of_ble_eq_true rfl) rfl rfl ((((((((((h.2.2.2 c1).2.2.2 c2).2 c8).2 c14).2 c20).2 c26).2 c32).2 c38).2 c44).1 c50).2.2.2.2.2.2.2.2.2.2.2.2.2.2.2.2.1 (CT.imp ((((((((((h.2.2.2 c1).2.2.2 c2).2 c8).2 c14).2 c20).2 c26).2 c32).2 c38).2 c44).1 c50).2.2.2.2.2.2.2.2.2.2.2.2.2.2.2.2.2 (fun z51 S51 V51 mc51 ms51 hc52 => ?_))
      refine X_aload_n dL_law_466 rfl ?_
      refine X_aload_n dL_law_467 rfl ?_
      refine X_iload_n dL_law_468 rfl ?_
      refine X_iconst dL_law_469 (by decide) ?_
      refine X_iaddN dL_law_470 hc52.1 hc52.2.1 ?_
      refine X_xget dL_law_471 hc52.2.2.1 hc52.2.2.2.1 ?_
      refine X_aload_n dL_law_472 rfl ?_
      refine X_iload_n dL_law_473 rfl ?_
      refine X_iconst dL_law_474 (by decide) ?_
      refine X_iaddN dL_law_475 hc52.2.2.2.2.1 hc52.2.2.2.2.2.1 ?_
      refine X_xget dL_law_476 hc52.2.2.2.2.2.2.1 hc52.2.2.2.2.2.2.2.1 ?_
      refine X_aload_n dL_law_477 rfl ?_
      refine X_iload_n dL_law_478 rfl ?_
      refine X_iconst dL_law_479 (by decide) ?_
      refine X_iaddN dL_law_480 hc52.2.2.2.2.2.2.2.2.1 hc52.2.2.2.2.2.2.2.2.2.1 ?_
      refine X_xget dL_law_481 hc52.2.2.2.2.2.2.2.2.2.2.1 hc52.2.2.2.2.2.2.2.2.2.2.2.1 ?_
      refine X_aload_n dL_law_482 rfl ?_
      refine X_iload_n dL_law_483 rfl ?_
      refine X_iconst dL_law_484 (by decide) ?_
      refine X_iaddN dL_law_485 hc52.2.2.2.2.2.2.2.2.2.2.2.2.1 hc52.2.2.2.2.2.2.2.2.2.2.2.2.2.1 ?_
      refine X_xget dL_law_486 hc52.2.2.2.2.2.2.2.2.2.2.2.2.2.2.1 hc52.2.2.2.2.2.2.2.2.2.2.2.2.2.2.2.1 ?_
      refine X_invV (ci := 12) (as := [vi ((G.2.2.2.2.2.2.2 (x3 + 1).toNat).toInt), vi ((G.2.2.2.2.2.2.2 (x3 + 2).toNat).toInt), vi ((G.2.2.2.2.2.2.2 (x3 + 3).toNat).toInt), vi ((G.2.2.2.2.2.2.2 (x3 + 4).toNat).toInt)]) (st := [vi z51]) okX12_body dL_law_487 km_RL_56 rfl rfl (Nat.le_of_ble_eq_true rfl) rfl rfl hc52.2.2.2.2.2.2.2.2.2.2.2.2.2.2.2.2.1 (CT.imp hc52.2.2.2.2.2.2.2.2.2.2.2.2.2.2.2.2.2 (fun z53 S53 V53 mc53 ms53 hc54 => ?_))
      refine X_icmp_eq dL_law_490 (tgt := 1268) rfl (fun c55 => ?_) (fun c55 => ?_)
      · refine X_iincN dL_law_1268 rfl (by decide) rfl (e := x3 + 5) rfl (hc54.1 c55).1 (hc54.1 c55).2.1 ?_
        refine X_goto dL_law_1271 (tgt := 18) rfl ?_
        exact (hc54.1 c55).2.2
      · refine X_iconst dL_law_493 (by decide) ?_
        exact X_ret (z := 0) dL_law_494 rfl (fun _ => Or.inl rfl) (hc54.2 c55)
    by_cases c56 : (bAnd ((G.2.2.2.2.2.2.2 (x3).toNat).toInt) 31) = 9
    · refine X_table dL_law_32 495 463 (by rw [c56]; rfl) rfl ?_
      refine X_aload_n dL_law_495 rfl ?_
      refine X_aload_n dL_law_496 rfl ?_
      refine X_iload_n dL_law_497 rfl ?_
      refine X_iconst dL_law_498 (by decide) ?_
      refine X_iaddN dL_law_499 (((((((((((h.2.2.2 c1).2.2.2 c2).2 c8).2 c14).2 c20).2 c26).2 c32).2 c38).2 c44).2 c50).1 c56).1 (((((((((((h.2.2.2 c1).2.2.2 c2).2 c8).2 c14).2 c20).2 c26).2 c32).2 c38).2 c44).2 c50).1 c56).2.1 ?_
      refine X_xget dL_law_500 (((((((((((h.2.2.2 c1).2.2.2 c2).2 c8).2 c14).2 c20).2 c26).2 c32).2 c38).2 c44).2 c50).1 c56).2.2.1 (((((((((((h.2.2.2 c1).2.2.2 c2).2 c8).2 c14).2 c20).2 c26).2 c32).2 c38).2 c44).2 c50).1 c56).2.2.2.1 ?_
      refine X_aload_n dL_law_501 rfl ?_
      refine X_iload_n dL_law_502 rfl ?_
      refine X_iconst dL_law_503 (by decide) ?_
      refine X_iaddN dL_law_504 (((((((((((h.2.2.2 c1).2.2.2 c2).2 c8).2 c14).2 c20).2 c26).2 c32).2 c38).2 c44).2 c50).1 c56).2.2.2.2.1 (((((((((((h.2.2.2 c1).2.2.2 c2).2 c8).2 c14).2 c20).2 c26).2 c32).2 c38).2 c44).2 c50).1 c56).2.2.2.2.2.1 ?_
      refine X_xget dL_law_505 (((((((((((h.2.2.2 c1).2.2.2 c2).2 c8).2 c14).2 c20).2 c26).2 c32).2 c38).2 c44).2 c50).1 c56).2.2.2.2.2.2.1 (((((((((((h.2.2.2 c1).2.2.2 c2).2 c8).2 c14).2 c20).2 c26).2 c32).2 c38).2 c44).2 c50).1 c56).2.2.2.2.2.2.2.1 ?_
      refine X_invV (ci := 11) (as := [vi ((G.2.2.2.2.2.2.2 (x3 + 1).toNat).toInt), vi ((G.2.2.2.2.2.2.2 (x3 + 2).toNat).toInt)]) (st := []) okX11_use dL_law_506 km_RL_57 rfl rfl (Nat.le_of_ble_eq_true rfl) rfl rfl (((((((((((h.2.2.2 c1).2.2.2 c2).2 c8).2 c14).2 c20).2 c26).2 c32).2 c38).2 c44).2 c50).1 c56).2.2.2.2.2.2.2.2.1 (CT.imp (((((((((((h.2.2.2 c1).2.2.2 c2).2 c8).2 c14).2 c20).2 c26).2 c32).2 c38).2 c44).2 c50).1 c56).2.2.2.2.2.2.2.2.2 (fun z57 S57 V57 mc57 ms57 hc58 => ?_))
      refine X_aload_n dL_law_509 rfl ?_
      refine X_aload_n dL_law_510 rfl ?_
      refine X_iload_n dL_law_511 rfl ?_
      refine X_iconst dL_law_512 (by decide) ?_
      refine X_iaddN dL_law_513 hc58.1 hc58.2.1 ?_
      refine X_xget dL_law_514 hc58.2.2.1 hc58.2.2.2.1 ?_
      refine X_aload_n dL_law_515 rfl ?_
      refine X_iload_n dL_law_516 rfl ?_
      refine X_iconst dL_law_517 (by decide) ?_
      refine X_iaddN dL_law_518 hc58.2.2.2.2.1 hc58.2.2.2.2.2.1 ?_
      refine X_xget dL_law_519 hc58.2.2.2.2.2.2.1 hc58.2.2.2.2.2.2.2.1 ?_
      refine X_invV (ci := 12) (as := [vi ((G.2.2.2.2.2.2.2 (x3 + 1).toNat).toInt), vi ((G.2.2.2.2.2.2.2 (x3 + 2).toNat).toInt)]) (st := [vi z57]) okX12_use_ dL_law_520 km_RL_60 rfl rfl (Nat.le_of_ble_eq_true rfl) rfl rfl hc58.2.2.2.2.2.2.2.2.1 (CT.imp hc58.2.2.2.2.2.2.2.2.2 (fun z59 S59 V59 mc59 ms59 hc60 => ?_))
      refine X_icmp_eq dL_law_523 (tgt := 1268) rfl (fun c61 => ?_) (fun c61 => ?_)
      · refine X_iincN dL_law_1268 rfl (by decide) rfl (e := x3 + 5) rfl (hc60.1 c61).1 (hc60.1 c61).2.1 ?_
        refine X_goto dL_law_1271 (tgt := 18) rfl ?_
        exact (hc60.1 c61).2.2
      · refine X_iconst dL_law_526 (by decide) ?_
        exact X_ret (z := 0) dL_law_527 rfl (fun _ => Or.inl rfl) (hc60.2 c61)
    by_cases c62 : (bAnd ((G.2.2.2.2.2.2.2 (x3).toNat).toInt) 31) = 10
    · refine X_table dL_law_32 528 496 (by rw [c62]; rfl) rfl ?_
      refine X_aload_n dL_law_528 rfl ?_
      refine X_aload_n dL_law_529 rfl ?_
      refine X_iload_n dL_law_530 rfl ?_
      refine X_iconst dL_law_531 (by decide) ?_
      refine X_iaddN dL_law_532 ((((((((((((h.2.2.2 c1).2.2.2 c2).2 c8).2 c14).2 c20).2 c26).2 c32).2 c38).2 c44).2 c50).2 c56).1 c62).1 ((((((((((((h.2.2.2 c1).2.2.2 c2).2 c8).2 c14).2 c20).2 c26).2 c32).2 c38).2 c44).2 c50).2 c56).1 c62).2.1 ?_
      refine X_xget dL_law_533 ((((((((((((h.2.2.2 c1).2.2.2 c2).2 c8).2 c14).2 c20).2 c26).2 c32).2 c38).2 c44).2 c50).2 c56).1 c62).2.2.1 ((((((((((((h.2.2.2 c1).2.2.2 c2).2 c8).2 c14).2 c20).2 c26).2 c32).2 c38).2 c44).2 c50).2 c56).1 c62).2.2.2.1 ?_
      refine X_aload_n dL_law_534 rfl ?_
      refine X_iload_n dL_law_535 rfl ?_
      refine X_iconst dL_law_536 (by decide) ?_
      refine X_iaddN dL_law_537 ((((((((((((h.2.2.2 c1).2.2.2 c2).2 c8).2 c14).2 c20).2 c26).2 c32).2 c38).2 c44).2 c50).2 c56).1 c62).2.2.2.2.1 ((((((((((((h.2.2.2 c1).2.2.2 c2).2 c8).2 c14).2 c20).2 c26).2 c32).2 c38).2 c44).2 c50).2 c56).1 c62).2.2.2.2.2.1 ?_
      refine X_xget dL_law_538 ((((((((((((h.2.2.2 c1).2.2.2 c2).2 c8).2 c14).2 c20).2 c26).2 c32).2 c38).2 c44).2 c50).2 c56).1 c62).2.2.2.2.2.2.1 ((((((((((((h.2.2.2 c1).2.2.2 c2).2 c8).2 c14).2 c20).2 c26).2 c32).2 c38).2 c44).2 c50).2 c56).1 c62).2.2.2.2.2.2.2.1 ?_
      refine X_aload_n dL_law_539 rfl ?_
      refine X_iload_n dL_law_540 rfl ?_
      refine X_iconst dL_law_541 (by decide) ?_
      refine X_iaddN dL_law_542 ((((((((((((h.2.2.2 c1).2.2.2 c2).2 c8).2 c14).2 c20).2 c26).2 c32).2 c38).2 c44).2 c50).2 c56).1 c62).2.2.2.2.2.2.2.2.1 ((((((((((((h.2.2.2 c1).2.2.2 c2).2 c8).2 c14).2 c20).2 c26).2 c32).2 c38).2 c44).2 c50).2 c56).1 c62).2.2.2.2.2.2.2.2.2.1 ?_
      refine X_xget dL_law_543 ((((((((((((h.2.2.2 c1).2.2.2 c2).2 c8).2 c14).2 c20).2 c26).2 c32).2 c38).2 c44).2 c50).2 c56).1 c62).2.2.2.2.2.2.2.2.2.2.1 ((((((((((((h.2.2.2 c1).2.2.2 c2).2 c8).2 c14).2 c20).2 c26).2 c32).2 c38).2 c44).2 c50).2 c56).1 c62).2.2.2.2.2.2.2.2.2.2.2.1 ?_
      refine X_invV (ci := 11) (as := [vi ((G.2.2.2.2.2.2.2 (x3 + 1).toNat).toInt), vi ((G.2.2.2.2.2.2.2 (x3 + 2).toNat).toInt), vi ((G.2.2.2.2.2.2.2 (x3 + 3).toNat).toInt)]) (st := []) okX11_argument dL_law_544 km_RL_61 rfl rfl (Nat.le_of_ble_eq_true rfl) rfl rfl ((((((((((((h.2.2.2 c1).2.2.2 c2).2 c8).2 c14).2 c20).2 c26).2 c32).2 c38).2 c44).2 c50).2 c56).1 c62).2.2.2.2.2.2.2.2.2.2.2.2.1 (CT.imp ((((((((((((h.2.2.2 c1).2.2.2 c2).2 c8).2 c14).2 c20).2 c26).2 c32).2 c38).2 c44).2 c50).2 c56).1 c62).2.2.2.2.2.2.2.2.2.2.2.2.2 (fun z63 S63 V63 mc63 ms63 hc64 => ?_))
      refine X_aload_n dL_law_547 rfl ?_
      refine X_aload_n dL_law_548 rfl ?_
      refine X_iload_n dL_law_549 rfl ?_
      refine X_iconst dL_law_550 (by decide) ?_
      refine X_iaddN dL_law_551 hc64.1 hc64.2.1 ?_
      refine X_xget dL_law_552 hc64.2.2.1 hc64.2.2.2.1 ?_
      refine X_aload_n dL_law_553 rfl ?_
      refine X_iload_n dL_law_554 rfl ?_
      refine X_iconst dL_law_555 (by decide) ?_
      refine X_iaddN dL_law_556 hc64.2.2.2.2.1 hc64.2.2.2.2.2.1 ?_
      refine X_xget dL_law_557 hc64.2.2.2.2.2.2.1 hc64.2.2.2.2.2.2.2.1 ?_
      refine X_aload_n dL_law_558 rfl ?_
      refine X_iload_n dL_law_559 rfl ?_
      refine X_iconst dL_law_560 (by decide) ?_
      refine X_iaddN dL_law_561 hc64.2.2.2.2.2.2.2.2.1 hc64.2.2.2.2.2.2.2.2.2.1 ?_
      refine X_xget dL_law_562 hc64.2.2.2.2.2.2.2.2.2.2.1 hc64.2.2.2.2.2.2.2.2.2.2.2.1 ?_
      refine X_invV (ci := 12) (as := [vi ((G.2.2.2.2.2.2.2 (x3 + 1).toNat).toInt), vi ((G.2.2.2.2.2.2.2 (x3 + 2).toNat).toInt), vi ((G.2.2.2.2.2.2.2 (x3 + 3).toNat).toInt)]) (st := [vi z63]) okX12_argument dL_law_563 km_RL_64 rfl rfl (Nat.le_of_ble_eq_true rfl) rfl rfl hc64.2.2.2.2.2.2.2.2.2.2.2.2.1 (CT.imp hc64.2.2.2.2.2.2.2.2.2.2.2.2.2 (fun z65 S65 V65 mc65 ms65 hc66 => ?_))
      refine X_icmp_eq dL_law_566 (tgt := 1268) rfl (fun c67 => ?_) (fun c67 => ?_)
      · refine X_iincN dL_law_1268 rfl (by decide) rfl (e := x3 + 5) rfl (hc66.1 c67).1 (hc66.1 c67).2.1 ?_
        refine X_goto dL_law_1271 (tgt := 18) rfl ?_
        exact (hc66.1 c67).2.2
      · refine X_iconst dL_law_569 (by decide) ?_
        exact X_ret (z := 0) dL_law_570 rfl (fun _ => Or.inl rfl) (hc66.2 c67)
    by_cases c68 : (bAnd ((G.2.2.2.2.2.2.2 (x3).toNat).toInt) 31) = 11
    · refine X_table dL_law_32 571 539 (by rw [c68]; rfl) rfl ?_
      refine X_aload_n dL_law_571 rfl ?_
      refine X_aload_n dL_law_572 rfl ?_
      refine X_iload_n dL_law_573 rfl ?_
      refine X_iconst dL_law_574 (by decide) ?_
      refine X_iaddN dL_law_575 (((((((((((((h.2.2.2 c1).2.2.2 c2).2 c8).2 c14).2 c20).2 c26).2 c32).2 c38).2 c44).2 c50).2 c56).2 c62).1 c68).1 (((((((((((((h.2.2.2 c1).2.2.2 c2).2 c8).2 c14).2 c20).2 c26).2 c32).2 c38).2 c44).2 c50).2 c56).2 c62).1 c68).2.1 ?_
      refine X_xget dL_law_576 (((((((((((((h.2.2.2 c1).2.2.2 c2).2 c8).2 c14).2 c20).2 c26).2 c32).2 c38).2 c44).2 c50).2 c56).2 c62).1 c68).2.2.1 (((((((((((((h.2.2.2 c1).2.2.2 c2).2 c8).2 c14).2 c20).2 c26).2 c32).2 c38).2 c44).2 c50).2 c56).2 c62).1 c68).2.2.2.1 ?_
      refine X_aload_n dL_law_577 rfl ?_
      refine X_iload_n dL_law_578 rfl ?_
      refine X_iconst dL_law_579 (by decide) ?_
      refine X_iaddN dL_law_580 (((((((((((((h.2.2.2 c1).2.2.2 c2).2 c8).2 c14).2 c20).2 c26).2 c32).2 c38).2 c44).2 c50).2 c56).2 c62).1 c68).2.2.2.2.1 (((((((((((((h.2.2.2 c1).2.2.2 c2).2 c8).2 c14).2 c20).2 c26).2 c32).2 c38).2 c44).2 c50).2 c56).2 c62).1 c68).2.2.2.2.2.1 ?_
      refine X_xget dL_law_581 (((((((((((((h.2.2.2 c1).2.2.2 c2).2 c8).2 c14).2 c20).2 c26).2 c32).2 c38).2 c44).2 c50).2 c56).2 c62).1 c68).2.2.2.2.2.2.1 (((((((((((((h.2.2.2 c1).2.2.2 c2).2 c8).2 c14).2 c20).2 c26).2 c32).2 c38).2 c44).2 c50).2 c56).2 c62).1 c68).2.2.2.2.2.2.2.1 ?_
      refine X_aload_n dL_law_582 rfl ?_
      refine X_iload_n dL_law_583 rfl ?_
      refine X_iconst dL_law_584 (by decide) ?_
      refine X_iaddN dL_law_585 (((((((((((((h.2.2.2 c1).2.2.2 c2).2 c8).2 c14).2 c20).2 c26).2 c32).2 c38).2 c44).2 c50).2 c56).2 c62).1 c68).2.2.2.2.2.2.2.2.1 (((((((((((((h.2.2.2 c1).2.2.2 c2).2 c8).2 c14).2 c20).2 c26).2 c32).2 c38).2 c44).2 c50).2 c56).2 c62).1 c68).2.2.2.2.2.2.2.2.2.1 ?_
      refine X_xget dL_law_586 (((((((((((((h.2.2.2 c1).2.2.2 c2).2 c8).2 c14).2 c20).2 c26).2 c32).2 c38).2 c44).2 c50).2 c56).2 c62).1 c68).2.2.2.2.2.2.2.2.2.2.1 (((((((((((((h.2.2.2 c1).2.2.2 c2).2 c8).2 c14).2 c20).2 c26).2 c32).2 c38).2 c44).2 c50).2 c56).2 c62).1 c68).2.2.2.2.2.2.2.2.2.2.2.1 ?_
      refine X_aload_n dL_law_587 rfl ?_
      refine X_iload_n dL_law_588 rfl ?_
      refine X_iconst dL_law_589 (by decide) ?_
      refine X_iaddN dL_law_590 (((((((((((((h.2.2.2 c1).2.2.2 c2).2 c8).2 c14).2 c20).2 c26).2 c32).2 c38).2 c44).2 c50).2 c56).2 c62).1 c68).2.2.2.2.2.2.2.2.2.2.2.2.1 (((((((((((((h.2.2.2 c1).2.2.2 c2).2 c8).2 c14).2 c20).2 c26).2 c32).2 c38).2 c44).2 c50).2 c56).2 c62).1 c68).2.2.2.2.2.2.2.2.2.2.2.2.2.1 ?_
      refine X_xget dL_law_591 (((((((((((((h.2.2.2 c1).2.2.2 c2).2 c8).2 c14).2 c20).2 c26).2 c32).2 c38).2 c44).2 c50).2 c56).2 c62).1 c68).2.2.2.2.2.2.2.2.2.2.2.2.2.2.1 (((((((((((((h.2.2.2 c1).2.2.2 c2).2 c8).2 c14).2 c20).2 c26).2 c32).2 c38).2 c44).2 c50).2 c56).2 c62).1 c68).2.2.2.2.2.2.2.2.2.2.2.2.2.2.2.1 ?_
      refine X_invV (ci := 11) (as := [vi ((G.2.2.2.2.2.2.2 (x3 + 1).toNat).toInt), vi ((G.2.2.2.2.2.2.2 (x3 + 2).toNat).toInt), vi ((G.2.2.2.2.2.2.2 (x3 + 3).toNat).toInt), vi ((G.2.2.2.2.2.2.2 (x3 + 4).toNat).toInt)]) (st := []) okX11_act dL_law_592 km_RL_65 rfl rfl (Nat.le_of_ble_eq_true rfl) rfl rfl (((((((((((((h.2.2.2 c1).2.2.2 c2).2 c8).2 c14).2 c20).2 c26).2 c32).2 c38).2 c44).2 c50).2 c56).2 c62).1 c68).2.2.2.2.2.2.2.2.2.2.2.2.2.2.2.2.1 (CT.imp (((((((((((((h.2.2.2 c1).2.2.2 c2).2 c8).2 c14).2 c20).2 c26).2 c32).2 c38).2 c44).2 c50).2 c56).2 c62).1 c68).2.2.2.2.2.2.2.2.2.2.2.2.2.2.2.2.2 (fun z69 S69 V69 mc69 ms69 hc70 => ?_))
      refine X_aload_n dL_law_595 rfl ?_
      refine X_aload_n dL_law_596 rfl ?_
      refine X_iload_n dL_law_597 rfl ?_
      refine X_iconst dL_law_598 (by decide) ?_
      refine X_iaddN dL_law_599 hc70.1 hc70.2.1 ?_
      refine X_xget dL_law_600 hc70.2.2.1 hc70.2.2.2.1 ?_
      refine X_aload_n dL_law_601 rfl ?_
      refine X_iload_n dL_law_602 rfl ?_
      refine X_iconst dL_law_603 (by decide) ?_
      refine X_iaddN dL_law_604 hc70.2.2.2.2.1 hc70.2.2.2.2.2.1 ?_
      refine X_xget dL_law_605 hc70.2.2.2.2.2.2.1 hc70.2.2.2.2.2.2.2.1 ?_
      refine X_aload_n dL_law_606 rfl ?_
      refine X_iload_n dL_law_607 rfl ?_
      refine X_iconst dL_law_608 (by decide) ?_
      refine X_iaddN dL_law_609 hc70.2.2.2.2.2.2.2.2.1 hc70.2.2.2.2.2.2.2.2.2.1 ?_
      refine X_xget dL_law_610 hc70.2.2.2.2.2.2.2.2.2.2.1 hc70.2.2.2.2.2.2.2.2.2.2.2.1 ?_
      refine X_aload_n dL_law_611 rfl ?_
      refine X_iload_n dL_law_612 rfl ?_
      refine X_iconst dL_law_613 (by decide) ?_
      refine X_iaddN dL_law_614 hc70.2.2.2.2.2.2.2.2.2.2.2.2.1 hc70.2.2.2.2.2.2.2.2.2.2.2.2.2.1 ?_
      refine X_xget dL_law_615 hc70.2.2.2.2.2.2.2.2.2.2.2.2.2.2.1 hc70.2.2.2.2.2.2.2.2.2.2.2.2.2.2.2.1 ?_
      refine X_invV (ci := 12) (as := [vi ((G.2.2.2.2.2.2.2 (x3 + 1).toNat).toInt), vi ((G.2.2.2.2.2.2.2 (x3 + 2).toNat).toInt), vi ((G.2.2.2.2.2.2.2 (x3 + 3).toNat).toInt), vi ((G.2.2.2.2.2.2.2 (x3 + 4).toNat).toInt)]) (st := [vi z69]) okX12_act dL_law_616 km_RL_68 rfl rfl (Nat.le_of_ble_eq_true rfl) rfl rfl hc70.2.2.2.2.2.2.2.2.2.2.2.2.2.2.2.2.1 (CT.imp hc70.2.2.2.2.2.2.2.2.2.2.2.2.2.2.2.2.2 (fun z71 S71 V71 mc71 ms71 hc72 => ?_))
      refine X_icmp_eq dL_law_619 (tgt := 1268) rfl (fun c73 => ?_) (fun c73 => ?_)
      · refine X_iincN dL_law_1268 rfl (by decide) rfl (e := x3 + 5) rfl (hc72.1 c73).1 (hc72.1 c73).2.1 ?_
        refine X_goto dL_law_1271 (tgt := 18) rfl ?_
        exact (hc72.1 c73).2.2
      · refine X_iconst dL_law_622 (by decide) ?_
        exact X_ret (z := 0) dL_law_623 rfl (fun _ => Or.inl rfl) (hc72.2 c73)
    by_cases c74 : (bAnd ((G.2.2.2.2.2.2.2 (x3).toNat).toInt) 31) = 12
    · refine X_table dL_law_32 624 592 (by rw [c74]; rfl) rfl ?_
      refine X_aload_n dL_law_624 rfl ?_
      refine X_aload_n dL_law_625 rfl ?_
      refine X_iload_n dL_law_626 rfl ?_
      refine X_iconst dL_law_627 (by decide) ?_
      refine X_iaddN dL_law_628 ((((((((((((((h.2.2.2 c1).2.2.2 c2).2 c8).2 c14).2 c20).2 c26).2 c32).2 c38).2 c44).2 c50).2 c56).2 c62).2 c68).1 c74).1 ((((((((((((((h.2.2.2 c1).2.2.2 c2).2 c8).2 c14).2 c20).2 c26).2 c32).2 c38).2 c44).2 c50).2 c56).2 c62).2 c68).1 c74).2.1 ?_
      refine X_xget dL_law_629 ((((((((((((((h.2.2.2 c1).2.2.2 c2).2 c8).2 c14).2 c20).2 c26).2 c32).2 c38).2 c44).2 c50).2 c56).2 c62).2 c68).1 c74).2.2.1 ((((((((((((((h.2.2.2 c1).2.2.2 c2).2 c8).2 c14).2 c20).2 c26).2 c32).2 c38).2 c44).2 c50).2 c56).2 c62).2 c68).1 c74).2.2.2.1 ?_
      refine X_aload_n dL_law_630 rfl ?_
      refine X_iload_n dL_law_631 rfl ?_
      refine X_iconst dL_law_632 (by decide) ?_
      refine X_iaddN dL_law_633 ((((((((((((((h.2.2.2 c1).2.2.2 c2).2 c8).2 c14).2 c20).2 c26).2 c32).2 c38).2 c44).2 c50).2 c56).2 c62).2 c68).1 c74).2.2.2.2.1 ((((((((((((((h.2.2.2 c1).2.2.2 c2).2 c8).2 c14).2 c20).2 c26).2 c32).2 c38).2 c44).2 c50).2 c56).2 c62).2 c68).1 c74).2.2.2.2.2.1 ?_
      refine X_xget dL_law_634 ((((((((((((((h.2.2.2 c1).2.2.2 c2).2 c8).2 c14).2 c20).2 c26).2 c32).2 c38).2 c44).2 c50).2 c56).2 c62).2 c68).1 c74).2.2.2.2.2.2.1 ((((((((((((((h.2.2.2 c1).2.2.2 c2).2 c8).2 c14).2 c20).2 c26).2 c32).2 c38).2 c44).2 c50).2 c56).2 c62).2 c68).1 c74).2.2.2.2.2.2.2.1 ?_
      refine X_aload_n dL_law_635 rfl ?_
      refine X_iload_n dL_law_636 rfl ?_
      refine X_iconst dL_law_637 (by decide) ?_
      refine X_iaddN dL_law_638 ((((((((((((((h.2.2.2 c1).2.2.2 c2).2 c8).2 c14).2 c20).2 c26).2 c32).2 c38).2 c44).2 c50).2 c56).2 c62).2 c68).1 c74).2.2.2.2.2.2.2.2.1 ((((((((((((((h.2.2.2 c1).2.2.2 c2).2 c8).2 c14).2 c20).2 c26).2 c32).2 c38).2 c44).2 c50).2 c56).2 c62).2 c68).1 c74).2.2.2.2.2.2.2.2.2.1 ?_
      refine X_xget dL_law_639 ((((((((((((((h.2.2.2 c1).2.2.2 c2).2 c8).2 c14).2 c20).2 c26).2 c32).2 c38).2 c44).2 c50).2 c56).2 c62).2 c68).1 c74).2.2.2.2.2.2.2.2.2.2.1 ((((((((((((((h.2.2.2 c1).2.2.2 c2).2 c8).2 c14).2 c20).2 c26).2 c32).2 c38).2 c44).2 c50).2 c56).2 c62).2 c68).1 c74).2.2.2.2.2.2.2.2.2.2.2.1 ?_
      refine X_aload_n dL_law_640 rfl ?_
      refine X_iload_n dL_law_641 rfl ?_
      refine X_iconst dL_law_642 (by decide) ?_
      refine X_iaddN dL_law_643 ((((((((((((((h.2.2.2 c1).2.2.2 c2).2 c8).2 c14).2 c20).2 c26).2 c32).2 c38).2 c44).2 c50).2 c56).2 c62).2 c68).1 c74).2.2.2.2.2.2.2.2.2.2.2.2.1 ((((((((((((((h.2.2.2 c1).2.2.2 c2).2 c8).2 c14).2 c20).2 c26).2 c32).2 c38).2 c44).2 c50).2 c56).2 c62).2 c68).1 c74).2.2.2.2.2.2.2.2.2.2.2.2.2.1 ?_
      refine X_xget dL_law_644 ((((((((((((((h.2.2.2 c1).2.2.2 c2).2 c8).2 c14).2 c20).2 c26).2 c32).2 c38).2 c44).2 c50).2 c56).2 c62).2 c68).1 c74).2.2.2.2.2.2.2.2.2.2.2.2.2.2.1 ((((((((((((((h.2.2.2 c1).2.2.2 c2).2 c8).2 c14).2 c20).2 c26).2 c32).2 c38).2 c44).2 c50).2 c56).2 c62).2 c68).1 c74).2.2.2.2.2.2.2.2.2.2.2.2.2.2.2.1 ?_
      refine X_invV (ci := 11) (as := [vi ((G.2.2.2.2.2.2.2 (x3 + 1).toNat).toInt), vi ((G.2.2.2.2.2.2.2 (x3 + 2).toNat).toInt), vi ((G.2.2.2.2.2.2.2 (x3 + 3).toNat).toInt), vi ((G.2.2.2.2.2.2.2 (x3 + 4).toNat).toInt)]) (st := []) okX11_entry dL_law_645 km_RL_69 rfl rfl (Nat.le_of_ble_eq_true rfl) rfl rfl ((((((((((((((h.2.2.2 c1).2.2.2 c2).2 c8).2 c14).2 c20).2 c26).2 c32).2 c38).2 c44).2 c50).2 c56).2 c62).2 c68).1 c74).2.2.2.2.2.2.2.2.2.2.2.2.2.2.2.2.1 (CT.imp ((((((((((((((h.2.2.2 c1).2.2.2 c2).2 c8).2 c14).2 c20).2 c26).2 c32).2 c38).2 c44).2 c50).2 c56).2 c62).2 c68).1 c74).2.2.2.2.2.2.2.2.2.2.2.2.2.2.2.2.2 (fun z75 S75 V75 mc75 ms75 hc76 => ?_))
      refine X_aload_n dL_law_648 rfl ?_
      refine X_aload_n dL_law_649 rfl ?_
      refine X_iload_n dL_law_650 rfl ?_
      refine X_iconst dL_law_651 (by decide) ?_
      refine X_iaddN dL_law_652 hc76.1 hc76.2.1 ?_
      refine X_xget dL_law_653 hc76.2.2.1 hc76.2.2.2.1 ?_
      refine X_aload_n dL_law_654 rfl ?_
      refine X_iload_n dL_law_655 rfl ?_
      refine X_iconst dL_law_656 (by decide) ?_
      refine X_iaddN dL_law_657 hc76.2.2.2.2.1 hc76.2.2.2.2.2.1 ?_
      refine X_xget dL_law_658 hc76.2.2.2.2.2.2.1 hc76.2.2.2.2.2.2.2.1 ?_
      refine X_aload_n dL_law_659 rfl ?_
      refine X_iload_n dL_law_660 rfl ?_
      refine X_iconst dL_law_661 (by decide) ?_
      refine X_iaddN dL_law_662 hc76.2.2.2.2.2.2.2.2.1 hc76.2.2.2.2.2.2.2.2.2.1 ?_
      refine X_xget dL_law_663 hc76.2.2.2.2.2.2.2.2.2.2.1 hc76.2.2.2.2.2.2.2.2.2.2.2.1 ?_
      refine X_aload_n dL_law_664 rfl ?_
      refine X_iload_n dL_law_665 rfl ?_
      refine X_iconst dL_law_666 (by decide) ?_
      refine X_iaddN dL_law_667 hc76.2.2.2.2.2.2.2.2.2.2.2.2.1 hc76.2.2.2.2.2.2.2.2.2.2.2.2.2.1 ?_
      refine X_xget dL_law_668 hc76.2.2.2.2.2.2.2.2.2.2.2.2.2.2.1 hc76.2.2.2.2.2.2.2.2.2.2.2.2.2.2.2.1 ?_
      refine X_invV (ci := 12) (as := [vi ((G.2.2.2.2.2.2.2 (x3 + 1).toNat).toInt), vi ((G.2.2.2.2.2.2.2 (x3 + 2).toNat).toInt), vi ((G.2.2.2.2.2.2.2 (x3 + 3).toNat).toInt), vi ((G.2.2.2.2.2.2.2 (x3 + 4).toNat).toInt)]) (st := [vi z75]) okX12_entry dL_law_669 km_RL_72 rfl rfl (Nat.le_of_ble_eq_true rfl) rfl rfl hc76.2.2.2.2.2.2.2.2.2.2.2.2.2.2.2.2.1 (CT.imp hc76.2.2.2.2.2.2.2.2.2.2.2.2.2.2.2.2.2 (fun z77 S77 V77 mc77 ms77 hc78 => ?_))
      refine X_icmp_eq dL_law_672 (tgt := 1268) rfl (fun c79 => ?_) (fun c79 => ?_)
      · refine X_iincN dL_law_1268 rfl (by decide) rfl (e := x3 + 5) rfl (hc78.1 c79).1 (hc78.1 c79).2.1 ?_
        refine X_goto dL_law_1271 (tgt := 18) rfl ?_
        exact (hc78.1 c79).2.2
      · refine X_iconst dL_law_675 (by decide) ?_
        exact X_ret (z := 0) dL_law_676 rfl (fun _ => Or.inl rfl) (hc78.2 c79)
    by_cases c80 : (bAnd ((G.2.2.2.2.2.2.2 (x3).toNat).toInt) 31) = 13
    · refine X_table dL_law_32 677 645 (by rw [c80]; rfl) rfl ?_
      refine X_aload_n dL_law_677 rfl ?_
      refine X_aload_n dL_law_678 rfl ?_
      refine X_iload_n dL_law_679 rfl ?_
      refine X_iconst dL_law_680 (by decide) ?_
      refine X_iaddN dL_law_681 (((((((((((((((h.2.2.2 c1).2.2.2 c2).2 c8).2 c14).2 c20).2 c26).2 c32).2 c38).2 c44).2 c50).2 c56).2 c62).2 c68).2 c74).1 c80).1 (((((((((((((((h.2.2.2 c1).2.2.2 c2).2 c8).2 c14).2 c20).2 c26).2 c32).2 c38).2 c44).2 c50).2 c56).2 c62).2 c68).2 c74).1 c80).2.1 ?_
      refine X_xget dL_law_682 (((((((((((((((h.2.2.2 c1).2.2.2 c2).2 c8).2 c14).2 c20).2 c26).2 c32).2 c38).2 c44).2 c50).2 c56).2 c62).2 c68).2 c74).1 c80).2.2.1 (((((((((((((((h.2.2.2 c1).2.2.2 c2).2 c8).2 c14).2 c20).2 c26).2 c32).2 c38).2 c44).2 c50).2 c56).2 c62).2 c68).2 c74).1 c80).2.2.2.1 ?_
      refine X_aload_n dL_law_683 rfl ?_
      refine X_iload_n dL_law_684 rfl ?_
      refine X_iconst dL_law_685 (by decide) ?_
      refine X_iaddN dL_law_686 (((((((((((((((h.2.2.2 c1).2.2.2 c2).2 c8).2 c14).2 c20).2 c26).2 c32).2 c38).2 c44).2 c50).2 c56).2 c62).2 c68).2 c74).1 c80).2.2.2.2.1 (((((((((((((((h.2.2.2 c1).2.2.2 c2).2 c8).2 c14).2 c20).2 c26).2 c32).2 c38).2 c44).2 c50).2 c56).2 c62).2 c68).2 c74).1 c80).2.2.2.2.2.1 ?_
      refine X_xget dL_law_687 (((((((((((((((h.2.2.2 c1).2.2.2 c2).2 c8).2 c14).2 c20).2 c26).2 c32).2 c38).2 c44).2 c50).2 c56).2 c62).2 c68).2 c74).1 c80).2.2.2.2.2.2.1 (((((((((((((((h.2.2.2 c1).2.2.2 c2).2 c8).2 c14).2 c20).2 c26).2 c32).2 c38).2 c44).2 c50).2 c56).2 c62).2 c68).2 c74).1 c80).2.2.2.2.2.2.2.1 ?_
      refine X_aload_n dL_law_688 rfl ?_
      refine X_iload_n dL_law_689 rfl ?_
      refine X_iconst dL_law_690 (by decide) ?_
      refine X_iaddN dL_law_691 (((((((((((((((h.2.2.2 c1).2.2.2 c2).2 c8).2 c14).2 c20).2 c26).2 c32).2 c38).2 c44).2 c50).2 c56).2 c62).2 c68).2 c74).1 c80).2.2.2.2.2.2.2.2.1 (((((((((((((((h.2.2.2 c1).2.2.2 c2).2 c8).2 c14).2 c20).2 c26).2 c32).2 c38).2 c44).2 c50).2 c56).2 c62).2 c68).2 c74).1 c80).2.2.2.2.2.2.2.2.2.1 ?_
      refine X_xget dL_law_692 (((((((((((((((h.2.2.2 c1).2.2.2 c2).2 c8).2 c14).2 c20).2 c26).2 c32).2 c38).2 c44).2 c50).2 c56).2 c62).2 c68).2 c74).1 c80).2.2.2.2.2.2.2.2.2.2.1 (((((((((((((((h.2.2.2 c1).2.2.2 c2).2 c8).2 c14).2 c20).2 c26).2 c32).2 c38).2 c44).2 c50).2 c56).2 c62).2 c68).2 c74).1 c80).2.2.2.2.2.2.2.2.2.2.2.1 ?_
      refine X_invV (ci := 11) (as := [vi ((G.2.2.2.2.2.2.2 (x3 + 1).toNat).toInt), vi ((G.2.2.2.2.2.2.2 (x3 + 2).toNat).toInt), vi ((G.2.2.2.2.2.2.2 (x3 + 3).toNat).toInt)]) (st := []) okX11_holder dL_law_693 km_RL_73 rfl rfl (Nat.le_of_ble_eq_true rfl) rfl rfl (((((((((((((((h.2.2.2 c1).2.2.2 c2).2 c8).2 c14).2 c20).2 c26).2 c32).2 c38).2 c44).2 c50).2 c56).2 c62).2 c68).2 c74).1 c80).2.2.2.2.2.2.2.2.2.2.2.2.1 (CT.imp (((((((((((((((h.2.2.2 c1).2.2.2 c2).2 c8).2 c14).2 c20).2 c26).2 c32).2 c38).2 c44).2 c50).2 c56).2 c62).2 c68).2 c74).1 c80).2.2.2.2.2.2.2.2.2.2.2.2.2 (fun z81 S81 V81 mc81 ms81 hc82 => ?_))
      refine X_aload_n dL_law_696 rfl ?_
      refine X_aload_n dL_law_697 rfl ?_
      refine X_iload_n dL_law_698 rfl ?_
      refine X_iconst dL_law_699 (by decide) ?_
      refine X_iaddN dL_law_700 hc82.1 hc82.2.1 ?_
      refine X_xget dL_law_701 hc82.2.2.1 hc82.2.2.2.1 ?_
      refine X_aload_n dL_law_702 rfl ?_
      refine X_iload_n dL_law_703 rfl ?_
      refine X_iconst dL_law_704 (by decide) ?_
      refine X_iaddN dL_law_705 hc82.2.2.2.2.1 hc82.2.2.2.2.2.1 ?_
      refine X_xget dL_law_706 hc82.2.2.2.2.2.2.1 hc82.2.2.2.2.2.2.2.1 ?_
      refine X_aload_n dL_law_707 rfl ?_
      refine X_iload_n dL_law_708 rfl ?_
      refine X_iconst dL_law_709 (by decide) ?_
      refine X_iaddN dL_law_710 hc82.2.2.2.2.2.2.2.2.1 hc82.2.2.2.2.2.2.2.2.2.1 ?_
      refine X_xget dL_law_711 hc82.2.2.2.2.2.2.2.2.2.2.1 hc82.2.2.2.2.2.2.2.2.2.2.2.1 ?_
      refine X_invV (ci := 12) (as := [vi ((G.2.2.2.2.2.2.2 (x3 + 1).toNat).toInt), vi ((G.2.2.2.2.2.2.2 (x3 + 2).toNat).toInt), vi ((G.2.2.2.2.2.2.2 (x3 + 3).toNat).toInt)]) (st := [vi z81]) okX12_holder dL_law_712 km_RL_76 rfl rfl (Nat.le_of_ble_eq_true rfl) rfl rfl hc82.2.2.2.2.2.2.2.2.2.2.2.2.1 (CT.imp hc82.2.2.2.2.2.2.2.2.2.2.2.2.2 (fun z83 S83 V83 mc83 ms83 hc84 => ?_))
      refine X_icmp_eq dL_law_715 (tgt := 1268) rfl (fun c85 => ?_) (fun c85 => ?_)
      · refine X_iincN dL_law_1268 rfl (by decide) rfl (e := x3 + 5) rfl (hc84.1 c85).1 (hc84.1 c85).2.1 ?_
        refine X_goto dL_law_1271 (tgt := 18) rfl ?_
        exact (hc84.1 c85).2.2
      · refine X_iconst dL_law_718 (by decide) ?_
        exact X_ret (z := 0) dL_law_719 rfl (fun _ => Or.inl rfl) (hc84.2 c85)
    by_cases c86 : (bAnd ((G.2.2.2.2.2.2.2 (x3).toNat).toInt) 31) = 14
    · refine X_table dL_law_32 720 688 (by rw [c86]; rfl) rfl ?_
      refine X_aload_n dL_law_720 rfl ?_
      refine X_aload_n dL_law_721 rfl ?_
      refine X_iload_n dL_law_722 rfl ?_
      refine X_iconst dL_law_723 (by decide) ?_
      refine X_iaddN dL_law_724 ((((((((((((((((h.2.2.2 c1).2.2.2 c2).2 c8).2 c14).2 c20).2 c26).2 c32).2 c38).2 c44).2 c50).2 c56).2 c62).2 c68).2 c74).2 c80).1 c86).1 ((((((((((((((((h.2.2.2 c1).2.2.2 c2).2 c8).2 c14).2 c20).2 c26).2 c32).2 c38).2 c44).2 c50).2 c56).2 c62).2 c68).2 c74).2 c80).1 c86).2.1 ?_
      refine X_xget dL_law_725 ((((((((((((((((h.2.2.2 c1).2.2.2 c2).2 c8).2 c14).2 c20).2 c26).2 c32).2 c38).2 c44).2 c50).2 c56).2 c62).2 c68).2 c74).2 c80).1 c86).2.2.1 ((((((((((((((((h.2.2.2 c1).2.2.2 c2).2 c8).2 c14).2 c20).2 c26).2 c32).2 c38).2 c44).2 c50).2 c56).2 c62).2 c68).2 c74).2 c80).1 c86).2.2.2.1 ?_
      refine X_aload_n dL_law_726 rfl ?_
      refine X_iload_n dL_law_727 rfl ?_
      refine X_iconst dL_law_728 (by decide) ?_
      refine X_iaddN dL_law_729 ((((((((((((((((h.2.2.2 c1).2.2.2 c2).2 c8).2 c14).2 c20).2 c26).2 c32).2 c38).2 c44).2 c50).2 c56).2 c62).2 c68).2 c74).2 c80).1 c86).2.2.2.2.1 ((((((((((((((((h.2.2.2 c1).2.2.2 c2).2 c8).2 c14).2 c20).2 c26).2 c32).2 c38).2 c44).2 c50).2 c56).2 c62).2 c68).2 c74).2 c80).1 c86).2.2.2.2.2.1 ?_
      refine X_xget dL_law_730 ((((((((((((((((h.2.2.2 c1).2.2.2 c2).2 c8).2 c14).2 c20).2 c26).2 c32).2 c38).2 c44).2 c50).2 c56).2 c62).2 c68).2 c74).2 c80).1 c86).2.2.2.2.2.2.1 ((((((((((((((((h.2.2.2 c1).2.2.2 c2).2 c8).2 c14).2 c20).2 c26).2 c32).2 c38).2 c44).2 c50).2 c56).2 c62).2 c68).2 c74).2 c80).1 c86).2.2.2.2.2.2.2.1 ?_
      refine X_aload_n dL_law_731 rfl ?_
      refine X_iload_n dL_law_732 rfl ?_
      refine X_iconst dL_law_733 (by decide) ?_
      refine X_iaddN dL_law_734 ((((((((((((((((h.2.2.2 c1).2.2.2 c2).2 c8).2 c14).2 c20).2 c26).2 c32).2 c38).2 c44).2 c50).2 c56).2 c62).2 c68).2 c74).2 c80).1 c86).2.2.2.2.2.2.2.2.1 ((((((((((((((((h.2.2.2 c1).2.2.2 c2).2 c8).2 c14).2 c20).2 c26).2 c32).2 c38).2 c44).2 c50).2 c56).2 c62).2 c68).2 c74).2 c80).1 c86).2.2.2.2.2.2.2.2.2.1 ?_
      refine X_xget dL_law_735 ((((((((((((((((h.2.2.2 c1).2.2.2 c2).2 c8).2 c14).2 c20).2 c26).2 c32).2 c38).2 c44).2 c50).2 c56).2 c62).2 c68).2 c74).2 c80).1 c86).2.2.2.2.2.2.2.2.2.2.1 ((((((((((((((((h.2.2.2 c1).2.2.2 c2).2 c8).2 c14).2 c20).2 c26).2 c32).2 c38).2 c44).2 c50).2 c56).2 c62).2 c68).2 c74).2 c80).1 c86).2.2.2.2.2.2.2.2.2.2.2.1 ?_
      refine X_aload_n dL_law_736 rfl ?_
      refine X_iload_n dL_law_737 rfl ?_
      refine X_iconst dL_law_738 (by decide) ?_
      refine X_iaddN dL_law_739 ((((((((((((((((h.2.2.2 c1).2.2.2 c2).2 c8).2 c14).2 c20).2 c26).2 c32).2 c38).2 c44).2 c50).2 c56).2 c62).2 c68).2 c74).2 c80).1 c86).2.2.2.2.2.2.2.2.2.2.2.2.1 ((((((((((((((((h.2.2.2 c1).2.2.2 c2).2 c8).2 c14).2 c20).2 c26).2 c32).2 c38).2 c44).2 c50).2 c56).2 c62).2 c68).2 c74).2 c80).1 c86).2.2.2.2.2.2.2.2.2.2.2.2.2.1 ?_
      refine X_xget dL_law_740 ((((((((((((((((h.2.2.2 c1).2.2.2 c2).2 c8).2 c14).2 c20).2 c26).2 c32).2 c38).2 c44).2 c50).2 c56).2 c62).2 c68).2 c74).2 c80).1 c86).2.2.2.2.2.2.2.2.2.2.2.2.2.2.1 ((((((((((((((((h.2.2.2 c1).2.2.2 c2).2 c8).2 c14).2 c20).2 c26).2 c32).2 c38).2 c44).2 c50).2 c56).2 c62).2 c68).2 c74).2 c80).1 c86).2.2.2.2.2.2.2.2.2.2.2.2.2.2.2.1 ?_
      refine X_invV (ci := 11) (as := [vi ((G.2.2.2.2.2.2.2 (x3 + 1).toNat).toInt), vi ((G.2.2.2.2.2.2.2 (x3 + 2).toNat).toInt), vi ((G.2.2.2.2.2.2.2 (x3 + 3).toNat).toInt), vi ((G.2.2.2.2.2.2.2 (x3 + 4).toNat).toInt)]) (st := []) okX11_branch dL_law_741 km_RL_77 rfl rfl (Nat.le_of_ble_eq_true rfl) rfl rfl ((((((((((((((((h.2.2.2 c1).2.2.2 c2).2 c8).2 c14).2 c20).2 c26).2 c32).2 c38).2 c44).2 c50).2 c56).2 c62).2 c68).2 c74).2 c80).1 c86).2.2.2.2.2.2.2.2.2.2.2.2.2.2.2.2.1 (CT.imp ((((((((((((((((h.2.2.2 c1).2.2.2 c2).2 c8).2 c14).2 c20).2 c26).2 c32).2 c38).2 c44).2 c50).2 c56).2 c62).2 c68).2 c74).2 c80).1 c86).2.2.2.2.2.2.2.2.2.2.2.2.2.2.2.2.2 (fun z87 S87 V87 mc87 ms87 hc88 => ?_))
      refine X_aload_n dL_law_744 rfl ?_
      refine X_aload_n dL_law_745 rfl ?_
      refine X_iload_n dL_law_746 rfl ?_
      refine X_iconst dL_law_747 (by decide) ?_
      refine X_iaddN dL_law_748 hc88.1 hc88.2.1 ?_
      refine X_xget dL_law_749 hc88.2.2.1 hc88.2.2.2.1 ?_
      refine X_aload_n dL_law_750 rfl ?_
      refine X_iload_n dL_law_751 rfl ?_
      refine X_iconst dL_law_752 (by decide) ?_
      refine X_iaddN dL_law_753 hc88.2.2.2.2.1 hc88.2.2.2.2.2.1 ?_
      refine X_xget dL_law_754 hc88.2.2.2.2.2.2.1 hc88.2.2.2.2.2.2.2.1 ?_
      refine X_aload_n dL_law_755 rfl ?_
      refine X_iload_n dL_law_756 rfl ?_
      refine X_iconst dL_law_757 (by decide) ?_
      refine X_iaddN dL_law_758 hc88.2.2.2.2.2.2.2.2.1 hc88.2.2.2.2.2.2.2.2.2.1 ?_
      refine X_xget dL_law_759 hc88.2.2.2.2.2.2.2.2.2.2.1 hc88.2.2.2.2.2.2.2.2.2.2.2.1 ?_
      refine X_aload_n dL_law_760 rfl ?_
      refine X_iload_n dL_law_761 rfl ?_
      refine X_iconst dL_law_762 (by decide) ?_
      refine X_iaddN dL_law_763 hc88.2.2.2.2.2.2.2.2.2.2.2.2.1 hc88.2.2.2.2.2.2.2.2.2.2.2.2.2.1 ?_
      refine X_xget dL_law_764 hc88.2.2.2.2.2.2.2.2.2.2.2.2.2.2.1 hc88.2.2.2.2.2.2.2.2.2.2.2.2.2.2.2.1 ?_
      refine X_invV (ci := 12) (as := [vi ((G.2.2.2.2.2.2.2 (x3 + 1).toNat).toInt), vi ((G.2.2.2.2.2.2.2 (x3 + 2).toNat).toInt), vi ((G.2.2.2.2.2.2.2 (x3 + 3).toNat).toInt), vi ((G.2.2.2.2.2.2.2 (x3 + 4).toNat).toInt)]) (st := [vi z87]) okX12_branch dL_law_765 km_RL_80 rfl rfl (Nat.le_of_ble_eq_true rfl) rfl rfl hc88.2.2.2.2.2.2.2.2.2.2.2.2.2.2.2.2.1 (CT.imp hc88.2.2.2.2.2.2.2.2.2.2.2.2.2.2.2.2.2 (fun z89 S89 V89 mc89 ms89 hc90 => ?_))
      refine X_icmp_eq dL_law_768 (tgt := 1268) rfl (fun c91 => ?_) (fun c91 => ?_)
      · refine X_iincN dL_law_1268 rfl (by decide) rfl (e := x3 + 5) rfl (hc90.1 c91).1 (hc90.1 c91).2.1 ?_
        refine X_goto dL_law_1271 (tgt := 18) rfl ?_
        exact (hc90.1 c91).2.2
      · refine X_iconst dL_law_771 (by decide) ?_
        exact X_ret (z := 0) dL_law_772 rfl (fun _ => Or.inl rfl) (hc90.2 c91)
    by_cases c92 : (bAnd ((G.2.2.2.2.2.2.2 (x3).toNat).toInt) 31) = 15
    · refine X_table dL_law_32 773 741 (by rw [c92]; rfl) rfl ?_
      refine X_aload_n dL_law_773 rfl ?_
      refine X_invV (ci := 11) (as := []) (st := []) okX11_out dL_law_774 km_RL_81 rfl rfl (Nat.le_of_ble_eq_true rfl) rfl rfl (((((((((((((((((h.2.2.2 c1).2.2.2 c2).2 c8).2 c14).2 c20).2 c26).2 c32).2 c38).2 c44).2 c50).2 c56).2 c62).2 c68).2 c74).2 c80).2 c86).1 c92).1 (CT.imp (((((((((((((((((h.2.2.2 c1).2.2.2 c2).2 c8).2 c14).2 c20).2 c26).2 c32).2 c38).2 c44).2 c50).2 c56).2 c62).2 c68).2 c74).2 c80).2 c86).1 c92).2 (fun z93 S93 V93 mc93 ms93 hc94 => ?_))
      refine X_aload_n dL_law_777 rfl ?_
      refine X_invV (ci := 12) (as := []) (st := [vi z93]) okX12_out dL_law_778 km_RL_84 rfl rfl (Nat.le_of_ble_eq_true rfl) rfl rfl hc94.1 (CT.imp hc94.2 (fun z95 S95 V95 mc95 ms95 hc96 => ?_))
      refine X_icmp_eq dL_law_781 (tgt := 1268) rfl (fun c97 => ?_) (fun c97 => ?_)
      · refine X_iincN dL_law_1268 rfl (by decide) rfl (e := x3 + 5) rfl (hc96.1 c97).1 (hc96.1 c97).2.1 ?_
        refine X_goto dL_law_1271 (tgt := 18) rfl ?_
        exact (hc96.1 c97).2.2
      · refine X_iconst dL_law_784 (by decide) ?_
        exact X_ret (z := 0) dL_law_785 rfl (fun _ => Or.inl rfl) (hc96.2 c97)
    by_cases c98 : (bAnd ((G.2.2.2.2.2.2.2 (x3).toNat).toInt) 31) = 16
    · refine X_table dL_law_32 786 754 (by rw [c98]; rfl) rfl ?_
      refine X_aload_n dL_law_786 rfl ?_
      refine X_aload_n dL_law_787 rfl ?_
      refine X_iload_n dL_law_788 rfl ?_
      refine X_iconst dL_law_789 (by decide) ?_
      refine X_iaddN dL_law_790 ((((((((((((((((((h.2.2.2 c1).2.2.2 c2).2 c8).2 c14).2 c20).2 c26).2 c32).2 c38).2 c44).2 c50).2 c56).2 c62).2 c68).2 c74).2 c80).2 c86).2 c92).1 c98).1 ((((((((((((((((((h.2.2.2 c1).2.2.2 c2).2 c8).2 c14).2 c20).2 c26).2 c32).2 c38).2 c44).2 c50).2 c56).2 c62).2 c68).2 c74).2 c80).2 c86).2 c92).1 c98).2.1 ?_
      refine X_xget dL_law_791 ((((((((((((((((((h.2.2.2 c1).2.2.2 c2).2 c8).2 c14).2 c20).2 c26).2 c32).2 c38).2 c44).2 c50).2 c56).2 c62).2 c68).2 c74).2 c80).2 c86).2 c92).1 c98).2.2.1 ((((((((((((((((((h.2.2.2 c1).2.2.2 c2).2 c8).2 c14).2 c20).2 c26).2 c32).2 c38).2 c44).2 c50).2 c56).2 c62).2 c68).2 c74).2 c80).2 c86).2 c92).1 c98).2.2.2.1 ?_
      refine X_aload_n dL_law_792 rfl ?_
      refine X_iload_n dL_law_793 rfl ?_
      refine X_iconst dL_law_794 (by decide) ?_
      refine X_iaddN dL_law_795 ((((((((((((((((((h.2.2.2 c1).2.2.2 c2).2 c8).2 c14).2 c20).2 c26).2 c32).2 c38).2 c44).2 c50).2 c56).2 c62).2 c68).2 c74).2 c80).2 c86).2 c92).1 c98).2.2.2.2.1 ((((((((((((((((((h.2.2.2 c1).2.2.2 c2).2 c8).2 c14).2 c20).2 c26).2 c32).2 c38).2 c44).2 c50).2 c56).2 c62).2 c68).2 c74).2 c80).2 c86).2 c92).1 c98).2.2.2.2.2.1 ?_
      refine X_xget dL_law_796 ((((((((((((((((((h.2.2.2 c1).2.2.2 c2).2 c8).2 c14).2 c20).2 c26).2 c32).2 c38).2 c44).2 c50).2 c56).2 c62).2 c68).2 c74).2 c80).2 c86).2 c92).1 c98).2.2.2.2.2.2.1 ((((((((((((((((((h.2.2.2 c1).2.2.2 c2).2 c8).2 c14).2 c20).2 c26).2 c32).2 c38).2 c44).2 c50).2 c56).2 c62).2 c68).2 c74).2 c80).2 c86).2 c92).1 c98).2.2.2.2.2.2.2.1 ?_
      refine X_invV (ci := 11) (as := [vi ((G.2.2.2.2.2.2.2 (x3 + 1).toNat).toInt), vi ((G.2.2.2.2.2.2.2 (x3 + 2).toNat).toInt)]) (st := []) okX11_cause dL_law_797 km_RL_85 rfl rfl (Nat.le_of_ble_eq_true rfl) rfl rfl ((((((((((((((((((h.2.2.2 c1).2.2.2 c2).2 c8).2 c14).2 c20).2 c26).2 c32).2 c38).2 c44).2 c50).2 c56).2 c62).2 c68).2 c74).2 c80).2 c86).2 c92).1 c98).2.2.2.2.2.2.2.2.1 (CT.imp ((((((((((((((((((h.2.2.2 c1).2.2.2 c2).2 c8).2 c14).2 c20).2 c26).2 c32).2 c38).2 c44).2 c50).2 c56).2 c62).2 c68).2 c74).2 c80).2 c86).2 c92).1 c98).2.2.2.2.2.2.2.2.2 (fun z99 S99 V99 mc99 ms99 hc100 => ?_))
      refine X_aload_n dL_law_800 rfl ?_
      refine X_aload_n dL_law_801 rfl ?_
      refine X_iload_n dL_law_802 rfl ?_
      refine X_iconst dL_law_803 (by decide) ?_
      refine X_iaddN dL_law_804 hc100.1 hc100.2.1 ?_
      refine X_xget dL_law_805 hc100.2.2.1 hc100.2.2.2.1 ?_
      refine X_aload_n dL_law_806 rfl ?_
      refine X_iload_n dL_law_807 rfl ?_
      refine X_iconst dL_law_808 (by decide) ?_
      refine X_iaddN dL_law_809 hc100.2.2.2.2.1 hc100.2.2.2.2.2.1 ?_
      refine X_xget dL_law_810 hc100.2.2.2.2.2.2.1 hc100.2.2.2.2.2.2.2.1 ?_
      refine X_invV (ci := 12) (as := [vi ((G.2.2.2.2.2.2.2 (x3 + 1).toNat).toInt), vi ((G.2.2.2.2.2.2.2 (x3 + 2).toNat).toInt)]) (st := [vi z99]) okX12_cause dL_law_811 km_RL_88 rfl rfl (Nat.le_of_ble_eq_true rfl) rfl rfl hc100.2.2.2.2.2.2.2.2.1 (CT.imp hc100.2.2.2.2.2.2.2.2.2 (fun z101 S101 V101 mc101 ms101 hc102 => ?_))
      refine X_icmp_eq dL_law_814 (tgt := 1268) rfl (fun c103 => ?_) (fun c103 => ?_)
      · refine X_iincN dL_law_1268 rfl (by decide) rfl (e := x3 + 5) rfl (hc102.1 c103).1 (hc102.1 c103).2.1 ?_
        refine X_goto dL_law_1271 (tgt := 18) rfl ?_
        exact (hc102.1 c103).2.2
      · refine X_iconst dL_law_817 (by decide) ?_
        exact X_ret (z := 0) dL_law_818 rfl (fun _ => Or.inl rfl) (hc102.2 c103)
    by_cases c104 : (bAnd ((G.2.2.2.2.2.2.2 (x3).toNat).toInt) 31) = 17
    · refine X_table dL_law_32 819 787 (by rw [c104]; rfl) rfl ?_
      refine X_aload_n dL_law_819 rfl ?_
      refine X_aload_n dL_law_820 rfl ?_
      refine X_iload_n dL_law_821 rfl ?_
      refine X_iconst dL_law_822 (by decide) ?_
      refine X_iaddN dL_law_823 (((((((((((((((((((h.2.2.2 c1).2.2.2 c2).2 c8).2 c14).2 c20).2 c26).2 c32).2 c38).2 c44).2 c50).2 c56).2 c62).2 c68).2 c74).2 c80).2 c86).2 c92).2 c98).1 c104).1 (((((((((((((((((((h.2.2.2 c1).2.2.2 c2).2 c8).2 c14).2 c20).2 c26).2 c32).2 c38).2 c44).2 c50).2 c56).2 c62).2 c68).2 c74).2 c80).2 c86).2 c92).2 c98).1 c104).2.1 ?_
      refine X_xget dL_law_824 (((((((((((((((((((h.2.2.2 c1).2.2.2 c2).2 c8).2 c14).2 c20).2 c26).2 c32).2 c38).2 c44).2 c50).2 c56).2 c62).2 c68).2 c74).2 c80).2 c86).2 c92).2 c98).1 c104).2.2.1 (((((((((((((((((((h.2.2.2 c1).2.2.2 c2).2 c8).2 c14).2 c20).2 c26).2 c32).2 c38).2 c44).2 c50).2 c56).2 c62).2 c68).2 c74).2 c80).2 c86).2 c92).2 c98).1 c104).2.2.2.1 ?_
      refine X_aload_n dL_law_825 rfl ?_
      refine X_iload_n dL_law_826 rfl ?_
      refine X_iconst dL_law_827 (by decide) ?_
      refine X_iaddN dL_law_828 (((((((((((((((((((h.2.2.2 c1).2.2.2 c2).2 c8).2 c14).2 c20).2 c26).2 c32).2 c38).2 c44).2 c50).2 c56).2 c62).2 c68).2 c74).2 c80).2 c86).2 c92).2 c98).1 c104).2.2.2.2.1 (((((((((((((((((((h.2.2.2 c1).2.2.2 c2).2 c8).2 c14).2 c20).2 c26).2 c32).2 c38).2 c44).2 c50).2 c56).2 c62).2 c68).2 c74).2 c80).2 c86).2 c92).2 c98).1 c104).2.2.2.2.2.1 ?_
      refine X_xget dL_law_829 (((((((((((((((((((h.2.2.2 c1).2.2.2 c2).2 c8).2 c14).2 c20).2 c26).2 c32).2 c38).2 c44).2 c50).2 c56).2 c62).2 c68).2 c74).2 c80).2 c86).2 c92).2 c98).1 c104).2.2.2.2.2.2.1 (((((((((((((((((((h.2.2.2 c1).2.2.2 c2).2 c8).2 c14).2 c20).2 c26).2 c32).2 c38).2 c44).2 c50).2 c56).2 c62).2 c68).2 c74).2 c80).2 c86).2 c92).2 c98).1 c104).2.2.2.2.2.2.2.1 ?_
      refine X_invV (ci := 11) (as := [vi ((G.2.2.2.2.2.2.2 (x3 + 1).toNat).toInt), vi ((G.2.2.2.2.2.2.2 (x3 + 2).toNat).toInt)]) (st := []) okX11_start dL_law_830 km_RL_89 rfl rfl (Nat.le_of_ble_eq_true rfl) rfl rfl (((((((((((((((((((h.2.2.2 c1).2.2.2 c2).2 c8).2 c14).2 c20).2 c26).2 c32).2 c38).2 c44).2 c50).2 c56).2 c62).2 c68).2 c74).2 c80).2 c86).2 c92).2 c98).1 c104).2.2.2.2.2.2.2.2.1 (CT.imp (((((((((((((((((((h.2.2.2 c1).2.2.2 c2).2 c8).2 c14).2 c20).2 c26).2 c32).2 c38).2 c44).2 c50).2 c56).2 c62).2 c68).2 c74).2 c80).2 c86).2 c92).2 c98).1 c104).2.2.2.2.2.2.2.2.2 (fun z105 S105 V105 mc105 ms105 hc106 => ?_))
      refine X_aload_n dL_law_833 rfl ?_
      refine X_aload_n dL_law_834 rfl ?_
      refine X_iload_n dL_law_835 rfl ?_
      refine X_iconst dL_law_836 (by decide) ?_
      refine X_iaddN dL_law_837 hc106.1 hc106.2.1 ?_
      refine X_xget dL_law_838 hc106.2.2.1 hc106.2.2.2.1 ?_
      refine X_aload_n dL_law_839 rfl ?_
      refine X_iload_n dL_law_840 rfl ?_
      refine X_iconst dL_law_841 (by decide) ?_
      refine X_iaddN dL_law_842 hc106.2.2.2.2.1 hc106.2.2.2.2.2.1 ?_
      refine X_xget dL_law_843 hc106.2.2.2.2.2.2.1 hc106.2.2.2.2.2.2.2.1 ?_
      refine X_invV (ci := 12) (as := [vi ((G.2.2.2.2.2.2.2 (x3 + 1).toNat).toInt), vi ((G.2.2.2.2.2.2.2 (x3 + 2).toNat).toInt)]) (st := [vi z105]) okX12_start dL_law_844 km_RL_92 rfl rfl (Nat.le_of_ble_eq_true rfl) rfl rfl hc106.2.2.2.2.2.2.2.2.1 (CT.imp hc106.2.2.2.2.2.2.2.2.2 (fun z107 S107 V107 mc107 ms107 hc108 => ?_))
      refine X_icmp_eq dL_law_847 (tgt := 1268) rfl (fun c109 => ?_) (fun c109 => ?_)
      · refine X_iincN dL_law_1268 rfl (by decide) rfl (e := x3 + 5) rfl (hc108.1 c109).1 (hc108.1 c109).2.1 ?_
        refine X_goto dL_law_1271 (tgt := 18) rfl ?_
        exact (hc108.1 c109).2.2
      · refine X_iconst dL_law_850 (by decide) ?_
        exact X_ret (z := 0) dL_law_851 rfl (fun _ => Or.inl rfl) (hc108.2 c109)
    by_cases c110 : (bAnd ((G.2.2.2.2.2.2.2 (x3).toNat).toInt) 31) = 18
    · refine X_table dL_law_32 852 820 (by rw [c110]; rfl) rfl ?_
      refine X_aload_n dL_law_852 rfl ?_
      refine X_aload_n dL_law_853 rfl ?_
      refine X_iload_n dL_law_854 rfl ?_
      refine X_iconst dL_law_855 (by decide) ?_
      refine X_iaddN dL_law_856 ((((((((((((((((((((h.2.2.2 c1).2.2.2 c2).2 c8).2 c14).2 c20).2 c26).2 c32).2 c38).2 c44).2 c50).2 c56).2 c62).2 c68).2 c74).2 c80).2 c86).2 c92).2 c98).2 c104).1 c110).1 ((((((((((((((((((((h.2.2.2 c1).2.2.2 c2).2 c8).2 c14).2 c20).2 c26).2 c32).2 c38).2 c44).2 c50).2 c56).2 c62).2 c68).2 c74).2 c80).2 c86).2 c92).2 c98).2 c104).1 c110).2.1 ?_
      refine X_xget dL_law_857 ((((((((((((((((((((h.2.2.2 c1).2.2.2 c2).2 c8).2 c14).2 c20).2 c26).2 c32).2 c38).2 c44).2 c50).2 c56).2 c62).2 c68).2 c74).2 c80).2 c86).2 c92).2 c98).2 c104).1 c110).2.2.1 ((((((((((((((((((((h.2.2.2 c1).2.2.2 c2).2 c8).2 c14).2 c20).2 c26).2 c32).2 c38).2 c44).2 c50).2 c56).2 c62).2 c68).2 c74).2 c80).2 c86).2 c92).2 c98).2 c104).1 c110).2.2.2.1 ?_
      refine X_aload_n dL_law_858 rfl ?_
      refine X_iload_n dL_law_859 rfl ?_
      refine X_iconst dL_law_860 (by decide) ?_
      refine X_iaddN dL_law_861 ((((((((((((((((((((h.2.2.2 c1).2.2.2 c2).2 c8).2 c14).2 c20).2 c26).2 c32).2 c38).2 c44).2 c50).2 c56).2 c62).2 c68).2 c74).2 c80).2 c86).2 c92).2 c98).2 c104).1 c110).2.2.2.2.1 ((((((((((((((((((((h.2.2.2 c1).2.2.2 c2).2 c8).2 c14).2 c20).2 c26).2 c32).2 c38).2 c44).2 c50).2 c56).2 c62).2 c68).2 c74).2 c80).2 c86).2 c92).2 c98).2 c104).1 c110).2.2.2.2.2.1 ?_
      refine X_xget dL_law_862 ((((((((((((((((((((h.2.2.2 c1).2.2.2 c2).2 c8).2 c14).2 c20).2 c26).2 c32).2 c38).2 c44).2 c50).2 c56).2 c62).2 c68).2 c74).2 c80).2 c86).2 c92).2 c98).2 c104).1 c110).2.2.2.2.2.2.1 ((((((((((((((((((((h.2.2.2 c1).2.2.2 c2).2 c8).2 c14).2 c20).2 c26).2 c32).2 c38).2 c44).2 c50).2 c56).2 c62).2 c68).2 c74).2 c80).2 c86).2 c92).2 c98).2 c104).1 c110).2.2.2.2.2.2.2.1 ?_
      refine X_aload_n dL_law_863 rfl ?_
      refine X_iload_n dL_law_864 rfl ?_
      refine X_iconst dL_law_865 (by decide) ?_
      refine X_iaddN dL_law_866 ((((((((((((((((((((h.2.2.2 c1).2.2.2 c2).2 c8).2 c14).2 c20).2 c26).2 c32).2 c38).2 c44).2 c50).2 c56).2 c62).2 c68).2 c74).2 c80).2 c86).2 c92).2 c98).2 c104).1 c110).2.2.2.2.2.2.2.2.1 ((((((((((((((((((((h.2.2.2 c1).2.2.2 c2).2 c8).2 c14).2 c20).2 c26).2 c32).2 c38).2 c44).2 c50).2 c56).2 c62).2 c68).2 c74).2 c80).2 c86).2 c92).2 c98).2 c104).1 c110).2.2.2.2.2.2.2.2.2.1 ?_
      refine X_xget dL_law_867 ((((((((((((((((((((h.2.2.2 c1).2.2.2 c2).2 c8).2 c14).2 c20).2 c26).2 c32).2 c38).2 c44).2 c50).2 c56).2 c62).2 c68).2 c74).2 c80).2 c86).2 c92).2 c98).2 c104).1 c110).2.2.2.2.2.2.2.2.2.2.1 ((((((((((((((((((((h.2.2.2 c1).2.2.2 c2).2 c8).2 c14).2 c20).2 c26).2 c32).2 c38).2 c44).2 c50).2 c56).2 c62).2 c68).2 c74).2 c80).2 c86).2 c92).2 c98).2 c104).1 c110).2.2.2.2.2.2.2.2.2.2.2.1 ?_
      refine X_invV (ci := 11) (as := [vi ((G.2.2.2.2.2.2.2 (x3 + 1).toNat).toInt), vi ((G.2.2.2.2.2.2.2 (x3 + 2).toNat).toInt), vi ((G.2.2.2.2.2.2.2 (x3 + 3).toNat).toInt)]) (st := []) okX11_seen dL_law_868 km_RL_93 rfl rfl (Nat.le_of_ble_eq_true rfl) rfl rfl ((((((((((((((((((((h.2.2.2 c1).2.2.2 c2).2 c8).2 c14).2 c20).2 c26).2 c32).2 c38).2 c44).2 c50).2 c56).2 c62).2 c68).2 c74).2 c80).2 c86).2 c92).2 c98).2 c104).1 c110).2.2.2.2.2.2.2.2.2.2.2.2.1 (CT.imp ((((((((((((((((((((h.2.2.2 c1).2.2.2 c2).2 c8).2 c14).2 c20).2 c26).2 c32).2 c38).2 c44).2 c50).2 c56).2 c62).2 c68).2 c74).2 c80).2 c86).2 c92).2 c98).2 c104).1 c110).2.2.2.2.2.2.2.2.2.2.2.2.2 (fun z111 S111 V111 mc111 ms111 hc112 => ?_))
      refine X_aload_n dL_law_871 rfl ?_
      refine X_aload_n dL_law_872 rfl ?_
      refine X_iload_n dL_law_873 rfl ?_
      refine X_iconst dL_law_874 (by decide) ?_
      refine X_iaddN dL_law_875 hc112.1 hc112.2.1 ?_
      refine X_xget dL_law_876 hc112.2.2.1 hc112.2.2.2.1 ?_
      refine X_aload_n dL_law_877 rfl ?_
      refine X_iload_n dL_law_878 rfl ?_
      refine X_iconst dL_law_879 (by decide) ?_
      refine X_iaddN dL_law_880 hc112.2.2.2.2.1 hc112.2.2.2.2.2.1 ?_
      refine X_xget dL_law_881 hc112.2.2.2.2.2.2.1 hc112.2.2.2.2.2.2.2.1 ?_
      refine X_aload_n dL_law_882 rfl ?_
      refine X_iload_n dL_law_883 rfl ?_
      refine X_iconst dL_law_884 (by decide) ?_
      refine X_iaddN dL_law_885 hc112.2.2.2.2.2.2.2.2.1 hc112.2.2.2.2.2.2.2.2.2.1 ?_
      refine X_xget dL_law_886 hc112.2.2.2.2.2.2.2.2.2.2.1 hc112.2.2.2.2.2.2.2.2.2.2.2.1 ?_
      refine X_invV (ci := 12) (as := [vi ((G.2.2.2.2.2.2.2 (x3 + 1).toNat).toInt), vi ((G.2.2.2.2.2.2.2 (x3 + 2).toNat).toInt), vi ((G.2.2.2.2.2.2.2 (x3 + 3).toNat).toInt)]) (st := [vi z111]) okX12_seen dL_law_887 km_RL_96 rfl rfl (Nat.le_of_ble_eq_true rfl) rfl rfl hc112.2.2.2.2.2.2.2.2.2.2.2.2.1 (CT.imp hc112.2.2.2.2.2.2.2.2.2.2.2.2.2 (fun z113 S113 V113 mc113 ms113 hc114 => ?_))
      refine X_icmp_eq dL_law_890 (tgt := 1268) rfl (fun c115 => ?_) (fun c115 => ?_)
      · refine X_iincN dL_law_1268 rfl (by decide) rfl (e := x3 + 5) rfl (hc114.1 c115).1 (hc114.1 c115).2.1 ?_
        refine X_goto dL_law_1271 (tgt := 18) rfl ?_
        exact (hc114.1 c115).2.2
      · refine X_iconst dL_law_893 (by decide) ?_
        exact X_ret (z := 0) dL_law_894 rfl (fun _ => Or.inl rfl) (hc114.2 c115)
    by_cases c116 : (bAnd ((G.2.2.2.2.2.2.2 (x3).toNat).toInt) 31) = 19
    · refine X_table dL_law_32 895 863 (by rw [c116]; rfl) rfl ?_
      refine X_aload_n dL_law_895 rfl ?_
      refine X_aload_n dL_law_896 rfl ?_
      refine X_iload_n dL_law_897 rfl ?_
      refine X_iconst dL_law_898 (by decide) ?_
      refine X_iaddN dL_law_899 (((((((((((((((((((((h.2.2.2 c1).2.2.2 c2).2 c8).2 c14).2 c20).2 c26).2 c32).2 c38).2 c44).2 c50).2 c56).2 c62).2 c68).2 c74).2 c80).2 c86).2 c92).2 c98).2 c104).2 c110).1 c116).1 (((((((((((((((((((((h.2.2.2 c1).2.2.2 c2).2 c8).2 c14).2 c20).2 c26).2 c32).2 c38).2 c44).2 c50).2 c56).2 c62).2 c68).2 c74).2 c80).2 c86).2 c92).2 c98).2 c104).2 c110).1 c116).2.1 ?_
      refine X_xget dL_law_900 (((((((((((((((((((((h.2.2.2 c1).2.2.2 c2).2 c8).2 c14).2 c20).2 c26).2 c32).2 c38).2 c44).2 c50).2 c56).2 c62).2 c68).2 c74).2 c80).2 c86).2 c92).2 c98).2 c104).2 c110).1 c116).2.2.1 (((((((((((((((((((((h.2.2.2 c1).2.2.2 c2).2 c8).2 c14).2 c20).2 c26).2 c32).2 c38).2 c44).2 c50).2 c56).2 c62).2 c68).2 c74).2 c80).2 c86).2 c92).2 c98).2 c104).2 c110).1 c116).2.2.2.1 ?_
      refine X_aload_n dL_law_901 rfl ?_
      refine X_iload_n dL_law_902 rfl ?_
      refine X_iconst dL_law_903 (by decide) ?_
      refine X_iaddN dL_law_904 (((((((((((((((((((((h.2.2.2 c1).2.2.2 c2).2 c8).2 c14).2 c20).2 c26).2 c32).2 c38).2 c44).2 c50).2 c56).2 c62).2 c68).2 c74).2 c80).2 c86).2 c92).2 c98).2 c104).2 c110).1 c116).2.2.2.2.1 (((((((((((((((((((((h.2.2.2 c1).2.2.2 c2).2 c8).2 c14).2 c20).2 c26).2 c32).2 c38).2 c44).2 c50).2 c56).2 c62).2 c68).2 c74).2 c80).2 c86).2 c92).2 c98).2 c104).2 c110).1 c116).2.2.2.2.2.1 ?_
      refine X_xget dL_law_905 (((((((((((((((((((((h.2.2.2 c1).2.2.2 c2).2 c8).2 c14).2 c20).2 c26).2 c32).2 c38).2 c44).2 c50).2 c56).2 c62).2 c68).2 c74).2 c80).2 c86).2 c92).2 c98).2 c104).2 c110).1 c116).2.2.2.2.2.2.1 (((((((((((((((((((((h.2.2.2 c1).2.2.2 c2).2 c8).2 c14).2 c20).2 c26).2 c32).2 c38).2 c44).2 c50).2 c56).2 c62).2 c68).2 c74).2 c80).2 c86).2 c92).2 c98).2 c104).2 c110).1 c116).2.2.2.2.2.2.2.1 ?_
      refine X_invV (ci := 11) (as := [vi ((G.2.2.2.2.2.2.2 (x3 + 1).toNat).toInt), vi ((G.2.2.2.2.2.2.2 (x3 + 2).toNat).toInt)]) (st := []) okX11_set dL_law_906 km_RL_97 rfl rfl (Nat.le_of_ble_eq_true rfl) rfl rfl (((((((((((((((((((((h.2.2.2 c1).2.2.2 c2).2 c8).2 c14).2 c20).2 c26).2 c32).2 c38).2 c44).2 c50).2 c56).2 c62).2 c68).2 c74).2 c80).2 c86).2 c92).2 c98).2 c104).2 c110).1 c116).2.2.2.2.2.2.2.2.1 (CT.imp (((((((((((((((((((((h.2.2.2 c1).2.2.2 c2).2 c8).2 c14).2 c20).2 c26).2 c32).2 c38).2 c44).2 c50).2 c56).2 c62).2 c68).2 c74).2 c80).2 c86).2 c92).2 c98).2 c104).2 c110).1 c116).2.2.2.2.2.2.2.2.2 (fun z117 S117 V117 mc117 ms117 hc118 => ?_))
      refine X_aload_n dL_law_909 rfl ?_
      refine X_aload_n dL_law_910 rfl ?_
      refine X_iload_n dL_law_911 rfl ?_
      refine X_iconst dL_law_912 (by decide) ?_
      refine X_iaddN dL_law_913 hc118.1 hc118.2.1 ?_
      refine X_xget dL_law_914 hc118.2.2.1 hc118.2.2.2.1 ?_
      refine X_aload_n dL_law_915 rfl ?_
      refine X_iload_n dL_law_916 rfl ?_
      refine X_iconst dL_law_917 (by decide) ?_
      refine X_iaddN dL_law_918 hc118.2.2.2.2.1 hc118.2.2.2.2.2.1 ?_
      refine X_xget dL_law_919 hc118.2.2.2.2.2.2.1 hc118.2.2.2.2.2.2.2.1 ?_
      refine X_invV (ci := 12) (as := [vi ((G.2.2.2.2.2.2.2 (x3 + 1).toNat).toInt), vi ((G.2.2.2.2.2.2.2 (x3 + 2).toNat).toInt)]) (st := [vi z117]) okX12_set dL_law_920 km_RL_100 rfl rfl (Nat.le_of_ble_eq_true rfl) rfl rfl hc118.2.2.2.2.2.2.2.2.1 (CT.imp hc118.2.2.2.2.2.2.2.2.2 (fun z119 S119 V119 mc119 ms119 hc120 => ?_))
      refine X_icmp_eq dL_law_923 (tgt := 1268) rfl (fun c121 => ?_) (fun c121 => ?_)
      · refine X_iincN dL_law_1268 rfl (by decide) rfl (e := x3 + 5) rfl (hc120.1 c121).1 (hc120.1 c121).2.1 ?_
        refine X_goto dL_law_1271 (tgt := 18) rfl ?_
        exact (hc120.1 c121).2.2
      · refine X_iconst dL_law_926 (by decide) ?_
        exact X_ret (z := 0) dL_law_927 rfl (fun _ => Or.inl rfl) (hc120.2 c121)
    by_cases c122 : (bAnd ((G.2.2.2.2.2.2.2 (x3).toNat).toInt) 31) = 20
    · refine X_table dL_law_32 928 896 (by rw [c122]; rfl) rfl ?_
      refine X_aload_n dL_law_928 rfl ?_
      refine X_aload_n dL_law_929 rfl ?_
      refine X_iload_n dL_law_930 rfl ?_
      refine X_iconst dL_law_931 (by decide) ?_
      refine X_iaddN dL_law_932 ((((((((((((((((((((((h.2.2.2 c1).2.2.2 c2).2 c8).2 c14).2 c20).2 c26).2 c32).2 c38).2 c44).2 c50).2 c56).2 c62).2 c68).2 c74).2 c80).2 c86).2 c92).2 c98).2 c104).2 c110).2 c116).1 c122).1 ((((((((((((((((((((((h.2.2.2 c1).2.2.2 c2).2 c8).2 c14).2 c20).2 c26).2 c32).2 c38).2 c44).2 c50).2 c56).2 c62).2 c68).2 c74).2 c80).2 c86).2 c92).2 c98).2 c104).2 c110).2 c116).1 c122).2.1 ?_
      refine X_xget dL_law_933 ((((((((((((((((((((((h.2.2.2 c1).2.2.2 c2).2 c8).2 c14).2 c20).2 c26).2 c32).2 c38).2 c44).2 c50).2 c56).2 c62).2 c68).2 c74).2 c80).2 c86).2 c92).2 c98).2 c104).2 c110).2 c116).1 c122).2.2.1 ((((((((((((((((((((((h.2.2.2 c1).2.2.2 c2).2 c8).2 c14).2 c20).2 c26).2 c32).2 c38).2 c44).2 c50).2 c56).2 c62).2 c68).2 c74).2 c80).2 c86).2 c92).2 c98).2 c104).2 c110).2 c116).1 c122).2.2.2.1 ?_
      refine X_aload_n dL_law_934 rfl ?_
      refine X_iload_n dL_law_935 rfl ?_
      refine X_iconst dL_law_936 (by decide) ?_
      refine X_iaddN dL_law_937 ((((((((((((((((((((((h.2.2.2 c1).2.2.2 c2).2 c8).2 c14).2 c20).2 c26).2 c32).2 c38).2 c44).2 c50).2 c56).2 c62).2 c68).2 c74).2 c80).2 c86).2 c92).2 c98).2 c104).2 c110).2 c116).1 c122).2.2.2.2.1 ((((((((((((((((((((((h.2.2.2 c1).2.2.2 c2).2 c8).2 c14).2 c20).2 c26).2 c32).2 c38).2 c44).2 c50).2 c56).2 c62).2 c68).2 c74).2 c80).2 c86).2 c92).2 c98).2 c104).2 c110).2 c116).1 c122).2.2.2.2.2.1 ?_
      refine X_xget dL_law_938 ((((((((((((((((((((((h.2.2.2 c1).2.2.2 c2).2 c8).2 c14).2 c20).2 c26).2 c32).2 c38).2 c44).2 c50).2 c56).2 c62).2 c68).2 c74).2 c80).2 c86).2 c92).2 c98).2 c104).2 c110).2 c116).1 c122).2.2.2.2.2.2.1 ((((((((((((((((((((((h.2.2.2 c1).2.2.2 c2).2 c8).2 c14).2 c20).2 c26).2 c32).2 c38).2 c44).2 c50).2 c56).2 c62).2 c68).2 c74).2 c80).2 c86).2 c92).2 c98).2 c104).2 c110).2 c116).1 c122).2.2.2.2.2.2.2.1 ?_
      refine X_invV (ci := 11) (as := [vi ((G.2.2.2.2.2.2.2 (x3 + 1).toNat).toInt), vi ((G.2.2.2.2.2.2.2 (x3 + 2).toNat).toInt)]) (st := []) okX11_add dL_law_939 km_RL_101 rfl rfl (Nat.le_of_ble_eq_true rfl) rfl rfl ((((((((((((((((((((((h.2.2.2 c1).2.2.2 c2).2 c8).2 c14).2 c20).2 c26).2 c32).2 c38).2 c44).2 c50).2 c56).2 c62).2 c68).2 c74).2 c80).2 c86).2 c92).2 c98).2 c104).2 c110).2 c116).1 c122).2.2.2.2.2.2.2.2.1 (CT.imp ((((((((((((((((((((((h.2.2.2 c1).2.2.2 c2).2 c8).2 c14).2 c20).2 c26).2 c32).2 c38).2 c44).2 c50).2 c56).2 c62).2 c68).2 c74).2 c80).2 c86).2 c92).2 c98).2 c104).2 c110).2 c116).1 c122).2.2.2.2.2.2.2.2.2 (fun z123 S123 V123 mc123 ms123 hc124 => ?_))
      refine X_aload_n dL_law_942 rfl ?_
      refine X_aload_n dL_law_943 rfl ?_
      refine X_iload_n dL_law_944 rfl ?_
      refine X_iconst dL_law_945 (by decide) ?_
      refine X_iaddN dL_law_946 hc124.1 hc124.2.1 ?_
      refine X_xget dL_law_947 hc124.2.2.1 hc124.2.2.2.1 ?_
      refine X_aload_n dL_law_948 rfl ?_
      refine X_iload_n dL_law_949 rfl ?_
      refine X_iconst dL_law_950 (by decide) ?_
      refine X_iaddN dL_law_951 hc124.2.2.2.2.1 hc124.2.2.2.2.2.1 ?_
      refine X_xget dL_law_952 hc124.2.2.2.2.2.2.1 hc124.2.2.2.2.2.2.2.1 ?_
      refine X_invV (ci := 12) (as := [vi ((G.2.2.2.2.2.2.2 (x3 + 1).toNat).toInt), vi ((G.2.2.2.2.2.2.2 (x3 + 2).toNat).toInt)]) (st := [vi z123]) okX12_add dL_law_953 km_RL_104 rfl rfl (Nat.le_of_ble_eq_true rfl) rfl rfl hc124.2.2.2.2.2.2.2.2.1 (CT.imp hc124.2.2.2.2.2.2.2.2.2 (fun z125 S125 V125 mc125 ms125 hc126 => ?_))
      refine X_icmp_eq dL_law_956 (tgt := 1268) rfl (fun c127 => ?_) (fun c127 => ?_)
      · refine X_iincN dL_law_1268 rfl (by decide) rfl (e := x3 + 5) rfl (hc126.1 c127).1 (hc126.1 c127).2.1 ?_
        refine X_goto dL_law_1271 (tgt := 18) rfl ?_
        exact (hc126.1 c127).2.2
      · refine X_iconst dL_law_959 (by decide) ?_
        exact X_ret (z := 0) dL_law_960 rfl (fun _ => Or.inl rfl) (hc126.2 c127)
    by_cases c128 : (bAnd ((G.2.2.2.2.2.2.2 (x3).toNat).toInt) 31) = 21
    · refine X_table dL_law_32 961 929 (by rw [c128]; rfl) rfl ?_
      refine X_aload_n dL_law_961 rfl ?_
      refine X_aload_n dL_law_962 rfl ?_
      refine X_iload_n dL_law_963 rfl ?_
      refine X_iconst dL_law_964 (by decide) ?_
      refine X_iaddN dL_law_965 (((((((((((((((((((((((h.2.2.2 c1).2.2.2 c2).2 c8).2 c14).2 c20).2 c26).2 c32).2 c38).2 c44).2 c50).2 c56).2 c62).2 c68).2 c74).2 c80).2 c86).2 c92).2 c98).2 c104).2 c110).2 c116).2 c122).1 c128).1 (((((((((((((((((((((((h.2.2.2 c1).2.2.2 c2).2 c8).2 c14).2 c20).2 c26).2 c32).2 c38).2 c44).2 c50).2 c56).2 c62).2 c68).2 c74).2 c80).2 c86).2 c92).2 c98).2 c104).2 c110).2 c116).2 c122).1 c128).2.1 ?_
      refine X_xget dL_law_966 (((((((((((((((((((((((h.2.2.2 c1).2.2.2 c2).2 c8).2 c14).2 c20).2 c26).2 c32).2 c38).2 c44).2 c50).2 c56).2 c62).2 c68).2 c74).2 c80).2 c86).2 c92).2 c98).2 c104).2 c110).2 c116).2 c122).1 c128).2.2.1 (((((((((((((((((((((((h.2.2.2 c1).2.2.2 c2).2 c8).2 c14).2 c20).2 c26).2 c32).2 c38).2 c44).2 c50).2 c56).2 c62).2 c68).2 c74).2 c80).2 c86).2 c92).2 c98).2 c104).2 c110).2 c116).2 c122).1 c128).2.2.2.1 ?_
      refine X_aload_n dL_law_967 rfl ?_
      refine X_iload_n dL_law_968 rfl ?_
      refine X_iconst dL_law_969 (by decide) ?_
      refine X_iaddN dL_law_970 (((((((((((((((((((((((h.2.2.2 c1).2.2.2 c2).2 c8).2 c14).2 c20).2 c26).2 c32).2 c38).2 c44).2 c50).2 c56).2 c62).2 c68).2 c74).2 c80).2 c86).2 c92).2 c98).2 c104).2 c110).2 c116).2 c122).1 c128).2.2.2.2.1 (((((((((((((((((((((((h.2.2.2 c1).2.2.2 c2).2 c8).2 c14).2 c20).2 c26).2 c32).2 c38).2 c44).2 c50).2 c56).2 c62).2 c68).2 c74).2 c80).2 c86).2 c92).2 c98).2 c104).2 c110).2 c116).2 c122).1 c128).2.2.2.2.2.1 ?_
      refine X_xget dL_law_971 (((((((((((((((((((((((h.2.2.2 c1).2.2.2 c2).2 c8).2 c14).2 c20).2 c26).2 c32).2 c38).2 c44).2 c50).2 c56).2 c62).2 c68).2 c74).2 c80).2 c86).2 c92).2 c98).2 c104).2 c110).2 c116).2 c122).1 c128).2.2.2.2.2.2.1 (((((((((((((((((((((((h.2.2.2 c1).2.2.2 c2).2 c8).2 c14).2 c20).2 c26).2 c32).2 c38).2 c44).2 c50).2 c56).2 c62).2 c68).2 c74).2 c80).2 c86).2 c92).2 c98).2 c104).2 c110).2 c116).2 c122).1 c128).2.2.2.2.2.2.2.1 ?_
      refine X_invV (ci := 11) (as := [vi ((G.2.2.2.2.2.2.2 (x3 + 1).toNat).toInt), vi ((G.2.2.2.2.2.2.2 (x3 + 2).toNat).toInt)]) (st := []) okX11_take dL_law_972 km_RL_105 rfl rfl (Nat.le_of_ble_eq_true rfl) rfl rfl (((((((((((((((((((((((h.2.2.2 c1).2.2.2 c2).2 c8).2 c14).2 c20).2 c26).2 c32).2 c38).2 c44).2 c50).2 c56).2 c62).2 c68).2 c74).2 c80).2 c86).2 c92).2 c98).2 c104).2 c110).2 c116).2 c122).1 c128).2.2.2.2.2.2.2.2.1 (CT.imp (((((((((((((((((((((((h.2.2.2 c1).2.2.2 c2).2 c8).2 c14).2 c20).2 c26).2 c32).2 c38).2 c44).2 c50).2 c56).2 c62).2 c68).2 c74).2 c80).2 c86).2 c92).2 c98).2 c104).2 c110).2 c116).2 c122).1 c128).2.2.2.2.2.2.2.2.2 (fun z129 S129 V129 mc129 ms129 hc130 => ?_))
      refine X_aload_n dL_law_975 rfl ?_
      refine X_aload_n dL_law_976 rfl ?_
      refine X_iload_n dL_law_977 rfl ?_
      refine X_iconst dL_law_978 (by decide) ?_
      refine X_iaddN dL_law_979 hc130.1 hc130.2.1 ?_
      refine X_xget dL_law_980 hc130.2.2.1 hc130.2.2.2.1 ?_
      refine X_aload_n dL_law_981 rfl ?_
      refine X_iload_n dL_law_982 rfl ?_
      refine X_iconst dL_law_983 (by decide) ?_
      refine X_iaddN dL_law_984 hc130.2.2.2.2.1 hc130.2.2.2.2.2.1 ?_
      refine X_xget dL_law_985 hc130.2.2.2.2.2.2.1 hc130.2.2.2.2.2.2.2.1 ?_
      refine X_invV (ci := 12) (as := [vi ((G.2.2.2.2.2.2.2 (x3 + 1).toNat).toInt), vi ((G.2.2.2.2.2.2.2 (x3 + 2).toNat).toInt)]) (st := [vi z129]) okX12_take dL_law_986 km_RL_108 rfl rfl (Nat.le_of_ble_eq_true rfl) rfl rfl hc130.2.2.2.2.2.2.2.2.1 (CT.imp hc130.2.2.2.2.2.2.2.2.2 (fun z131 S131 V131 mc131 ms131 hc132 => ?_))
      refine X_icmp_eq dL_law_989 (tgt := 1268) rfl (fun c133 => ?_) (fun c133 => ?_)
      · refine X_iincN dL_law_1268 rfl (by decide) rfl (e := x3 + 5) rfl (hc132.1 c133).1 (hc132.1 c133).2.1 ?_
        refine X_goto dL_law_1271 (tgt := 18) rfl ?_
        exact (hc132.1 c133).2.2
      · refine X_iconst dL_law_992 (by decide) ?_
        exact X_ret (z := 0) dL_law_993 rfl (fun _ => Or.inl rfl) (hc132.2 c133)
    by_cases c134 : (bAnd ((G.2.2.2.2.2.2.2 (x3).toNat).toInt) 31) = 22
    · refine X_table dL_law_32 994 962 (by rw [c134]; rfl) rfl ?_
      refine X_aload_n dL_law_994 rfl ?_
      refine X_aload_n dL_law_995 rfl ?_
      refine X_iload_n dL_law_996 rfl ?_
      refine X_iconst dL_law_997 (by decide) ?_
      refine X_iaddN dL_law_998 ((((((((((((((((((((((((h.2.2.2 c1).2.2.2 c2).2 c8).2 c14).2 c20).2 c26).2 c32).2 c38).2 c44).2 c50).2 c56).2 c62).2 c68).2 c74).2 c80).2 c86).2 c92).2 c98).2 c104).2 c110).2 c116).2 c122).2 c128).1 c134).1 ((((((((((((((((((((((((h.2.2.2 c1).2.2.2 c2).2 c8).2 c14).2 c20).2 c26).2 c32).2 c38).2 c44).2 c50).2 c56).2 c62).2 c68).2 c74).2 c80).2 c86).2 c92).2 c98).2 c104).2 c110).2 c116).2 c122).2 c128).1 c134).2.1 ?_
      refine X_xget dL_law_999 ((((((((((((((((((((((((h.2.2.2 c1).2.2.2 c2).2 c8).2 c14).2 c20).2 c26).2 c32).2 c38).2 c44).2 c50).2 c56).2 c62).2 c68).2 c74).2 c80).2 c86).2 c92).2 c98).2 c104).2 c110).2 c116).2 c122).2 c128).1 c134).2.2.1 ((((((((((((((((((((((((h.2.2.2 c1).2.2.2 c2).2 c8).2 c14).2 c20).2 c26).2 c32).2 c38).2 c44).2 c50).2 c56).2 c62).2 c68).2 c74).2 c80).2 c86).2 c92).2 c98).2 c104).2 c110).2 c116).2 c122).2 c128).1 c134).2.2.2.1 ?_
      refine X_aload_n dL_law_1000 rfl ?_
      refine X_iload_n dL_law_1001 rfl ?_
      refine X_iconst dL_law_1002 (by decide) ?_
      refine X_iaddN dL_law_1003 ((((((((((((((((((((((((h.2.2.2 c1).2.2.2 c2).2 c8).2 c14).2 c20).2 c26).2 c32).2 c38).2 c44).2 c50).2 c56).2 c62).2 c68).2 c74).2 c80).2 c86).2 c92).2 c98).2 c104).2 c110).2 c116).2 c122).2 c128).1 c134).2.2.2.2.1 ((((((((((((((((((((((((h.2.2.2 c1).2.2.2 c2).2 c8).2 c14).2 c20).2 c26).2 c32).2 c38).2 c44).2 c50).2 c56).2 c62).2 c68).2 c74).2 c80).2 c86).2 c92).2 c98).2 c104).2 c110).2 c116).2 c122).2 c128).1 c134).2.2.2.2.2.1 ?_
      refine X_xget dL_law_1004 ((((((((((((((((((((((((h.2.2.2 c1).2.2.2 c2).2 c8).2 c14).2 c20).2 c26).2 c32).2 c38).2 c44).2 c50).2 c56).2 c62).2 c68).2 c74).2 c80).2 c86).2 c92).2 c98).2 c104).2 c110).2 c116).2 c122).2 c128).1 c134).2.2.2.2.2.2.1 ((((((((((((((((((((((((h.2.2.2 c1).2.2.2 c2).2 c8).2 c14).2 c20).2 c26).2 c32).2 c38).2 c44).2 c50).2 c56).2 c62).2 c68).2 c74).2 c80).2 c86).2 c92).2 c98).2 c104).2 c110).2 c116).2 c122).2 c128).1 c134).2.2.2.2.2.2.2.1 ?_
      refine X_aload_n dL_law_1005 rfl ?_
      refine X_iload_n dL_law_1006 rfl ?_
      refine X_iconst dL_law_1007 (by decide) ?_
      refine X_iaddN dL_law_1008 ((((((((((((((((((((((((h.2.2.2 c1).2.2.2 c2).2 c8).2 c14).2 c20).2 c26).2 c32).2 c38).2 c44).2 c50).2 c56).2 c62).2 c68).2 c74).2 c80).2 c86).2 c92).2 c98).2 c104).2 c110).2 c116).2 c122).2 c128).1 c134).2.2.2.2.2.2.2.2.1 ((((((((((((((((((((((((h.2.2.2 c1).2.2.2 c2).2 c8).2 c14).2 c20).2 c26).2 c32).2 c38).2 c44).2 c50).2 c56).2 c62).2 c68).2 c74).2 c80).2 c86).2 c92).2 c98).2 c104).2 c110).2 c116).2 c122).2 c128).1 c134).2.2.2.2.2.2.2.2.2.1 ?_
      refine X_xget dL_law_1009 ((((((((((((((((((((((((h.2.2.2 c1).2.2.2 c2).2 c8).2 c14).2 c20).2 c26).2 c32).2 c38).2 c44).2 c50).2 c56).2 c62).2 c68).2 c74).2 c80).2 c86).2 c92).2 c98).2 c104).2 c110).2 c116).2 c122).2 c128).1 c134).2.2.2.2.2.2.2.2.2.2.1 ((((((((((((((((((((((((h.2.2.2 c1).2.2.2 c2).2 c8).2 c14).2 c20).2 c26).2 c32).2 c38).2 c44).2 c50).2 c56).2 c62).2 c68).2 c74).2 c80).2 c86).2 c92).2 c98).2 c104).2 c110).2 c116).2 c122).2 c128).1 c134).2.2.2.2.2.2.2.2.2.2.2.1 ?_
      refine X_invV (ci := 11) (as := [vi ((G.2.2.2.2.2.2.2 (x3 + 1).toNat).toInt), vi ((G.2.2.2.2.2.2.2 (x3 + 2).toNat).toInt), vi ((G.2.2.2.2.2.2.2 (x3 + 3).toNat).toInt)]) (st := []) okX11_join dL_law_1010 km_RL_109 rfl rfl (Nat.le_of_ble_eq_true rfl) rfl rfl ((((((((((((((((((((((((h.2.2.2 c1).2.2.2 c2).2 c8).2 c14).2 c20).2 c26).2 c32).2 c38).2 c44).2 c50).2 c56).2 c62).2 c68).2 c74).2 c80).2 c86).2 c92).2 c98).2 c104).2 c110).2 c116).2 c122).2 c128).1 c134).2.2.2.2.2.2.2.2.2.2.2.2.1 (CT.imp ((((((((((((((((((((((((h.2.2.2 c1).2.2.2 c2).2 c8).2 c14).2 c20).2 c26).2 c32).2 c38).2 c44).2 c50).2 c56).2 c62).2 c68).2 c74).2 c80).2 c86).2 c92).2 c98).2 c104).2 c110).2 c116).2 c122).2 c128).1 c134).2.2.2.2.2.2.2.2.2.2.2.2.2 (fun z135 S135 V135 mc135 ms135 hc136 => ?_))
      refine X_aload_n dL_law_1013 rfl ?_
      refine X_aload_n dL_law_1014 rfl ?_
      refine X_iload_n dL_law_1015 rfl ?_
      refine X_iconst dL_law_1016 (by decide) ?_
      refine X_iaddN dL_law_1017 hc136.1 hc136.2.1 ?_
      refine X_xget dL_law_1018 hc136.2.2.1 hc136.2.2.2.1 ?_
      refine X_aload_n dL_law_1019 rfl ?_
      refine X_iload_n dL_law_1020 rfl ?_
      refine X_iconst dL_law_1021 (by decide) ?_
      refine X_iaddN dL_law_1022 hc136.2.2.2.2.1 hc136.2.2.2.2.2.1 ?_
      refine X_xget dL_law_1023 hc136.2.2.2.2.2.2.1 hc136.2.2.2.2.2.2.2.1 ?_
      refine X_aload_n dL_law_1024 rfl ?_
      refine X_iload_n dL_law_1025 rfl ?_
      refine X_iconst dL_law_1026 (by decide) ?_
      refine X_iaddN dL_law_1027 hc136.2.2.2.2.2.2.2.2.1 hc136.2.2.2.2.2.2.2.2.2.1 ?_
      refine X_xget dL_law_1028 hc136.2.2.2.2.2.2.2.2.2.2.1 hc136.2.2.2.2.2.2.2.2.2.2.2.1 ?_
      refine X_invV (ci := 12) (as := [vi ((G.2.2.2.2.2.2.2 (x3 + 1).toNat).toInt), vi ((G.2.2.2.2.2.2.2 (x3 + 2).toNat).toInt), vi ((G.2.2.2.2.2.2.2 (x3 + 3).toNat).toInt)]) (st := [vi z135]) okX12_join dL_law_1029 km_RL_112 rfl rfl (Nat.le_of_ble_eq_true rfl) rfl rfl hc136.2.2.2.2.2.2.2.2.2.2.2.2.1 (CT.imp hc136.2.2.2.2.2.2.2.2.2.2.2.2.2 (fun z137 S137 V137 mc137 ms137 hc138 => ?_))
      refine X_icmp_eq dL_law_1032 (tgt := 1268) rfl (fun c139 => ?_) (fun c139 => ?_)
      · refine X_iincN dL_law_1268 rfl (by decide) rfl (e := x3 + 5) rfl (hc138.1 c139).1 (hc138.1 c139).2.1 ?_
        refine X_goto dL_law_1271 (tgt := 18) rfl ?_
        exact (hc138.1 c139).2.2
      · refine X_iconst dL_law_1035 (by decide) ?_
        exact X_ret (z := 0) dL_law_1036 rfl (fun _ => Or.inl rfl) (hc138.2 c139)
    by_cases c140 : (bAnd ((G.2.2.2.2.2.2.2 (x3).toNat).toInt) 31) = 23
    · refine X_table dL_law_32 1037 1005 (by rw [c140]; rfl) rfl ?_
      refine X_aload_n dL_law_1037 rfl ?_
      refine X_aload_n dL_law_1038 rfl ?_
      refine X_iload_n dL_law_1039 rfl ?_
      refine X_iconst dL_law_1040 (by decide) ?_
      refine X_iaddN dL_law_1041 (((((((((((((((((((((((((h.2.2.2 c1).2.2.2 c2).2 c8).2 c14).2 c20).2 c26).2 c32).2 c38).2 c44).2 c50).2 c56).2 c62).2 c68).2 c74).2 c80).2 c86).2 c92).2 c98).2 c104).2 c110).2 c116).2 c122).2 c128).2 c134).1 c140).1 (((((((((((((((((((((((((h.2.2.2 c1).2.2.2 c2).2 c8).2 c14).2 c20).2 c26).2 c32).2 c38).2 c44).2 c50).2 c56).2 c62).2 c68).2 c74).2 c80).2 c86).2 c92).2 c98).2 c104).2 c110).2 c116).2 c122).2 c128).2 c134).1 c140).2.1 ?_
      refine X_xget dL_law_1042 (((((((((((((((((((((((((h.2.2.2 c1).2.2.2 c2).2 c8).2 c14).2 c20).2 c26).2 c32).2 c38).2 c44).2 c50).2 c56).2 c62).2 c68).2 c74).2 c80).2 c86).2 c92).2 c98).2 c104).2 c110).2 c116).2 c122).2 c128).2 c134).1 c140).2.2.1 (((((((((((((((((((((((((h.2.2.2 c1).2.2.2 c2).2 c8).2 c14).2 c20).2 c26).2 c32).2 c38).2 c44).2 c50).2 c56).2 c62).2 c68).2 c74).2 c80).2 c86).2 c92).2 c98).2 c104).2 c110).2 c116).2 c122).2 c128).2 c134).1 c140).2.2.2.1 ?_
      refine X_aload_n dL_law_1043 rfl ?_
      refine X_iload_n dL_law_1044 rfl ?_
      refine X_iconst dL_law_1045 (by decide) ?_
      refine X_iaddN dL_law_1046 (((((((((((((((((((((((((h.2.2.2 c1).2.2.2 c2).2 c8).2 c14).2 c20).2 c26).2 c32).2 c38).2 c44).2 c50).2 c56).2 c62).2 c68).2 c74).2 c80).2 c86).2 c92).2 c98).2 c104).2 c110).2 c116).2 c122).2 c128).2 c134).1 c140).2.2.2.2.1 (((((((((((((((((((((((((h.2.2.2 c1).2.2.2 c2).2 c8).2 c14).2 c20).2 c26).2 c32).2 c38).2 c44).2 c50).2 c56).2 c62).2 c68).2 c74).2 c80).2 c86).2 c92).2 c98).2 c104).2 c110).2 c116).2 c122).2 c128).2 c134).1 c140).2.2.2.2.2.1 ?_
      refine X_xget dL_law_1047 (((((((((((((((((((((((((h.2.2.2 c1).2.2.2 c2).2 c8).2 c14).2 c20).2 c26).2 c32).2 c38).2 c44).2 c50).2 c56).2 c62).2 c68).2 c74).2 c80).2 c86).2 c92).2 c98).2 c104).2 c110).2 c116).2 c122).2 c128).2 c134).1 c140).2.2.2.2.2.2.1 (((((((((((((((((((((((((h.2.2.2 c1).2.2.2 c2).2 c8).2 c14).2 c20).2 c26).2 c32).2 c38).2 c44).2 c50).2 c56).2 c62).2 c68).2 c74).2 c80).2 c86).2 c92).2 c98).2 c104).2 c110).2 c116).2 c122).2 c128).2 c134).1 c140).2.2.2.2.2.2.2.1 ?_
      refine X_invV (ci := 11) (as := [vi ((G.2.2.2.2.2.2.2 (x3 + 1).toNat).toInt), vi ((G.2.2.2.2.2.2.2 (x3 + 2).toNat).toInt)]) (st := []) okX11_member dL_law_1048 km_RL_113 rfl rfl (Nat.le_of_ble_eq_true rfl) rfl rfl (((((((((((((((((((((((((h.2.2.2 c1).2.2.2 c2).2 c8).2 c14).2 c20).2 c26).2 c32).2 c38).2 c44).2 c50).2 c56).2 c62).2 c68).2 c74).2 c80).2 c86).2 c92).2 c98).2 c104).2 c110).2 c116).2 c122).2 c128).2 c134).1 c140).2.2.2.2.2.2.2.2.1 (CT.imp (((((((((((((((((((((((((h.2.2.2 c1).2.2.2 c2).2 c8).2 c14).2 c20).2 c26).2 c32).2 c38).2 c44).2 c50).2 c56).2 c62).2 c68).2 c74).2 c80).2 c86).2 c92).2 c98).2 c104).2 c110).2 c116).2 c122).2 c128).2 c134).1 c140).2.2.2.2.2.2.2.2.2 (fun z141 S141 V141 mc141 ms141 hc142 => ?_))
      refine X_aload_n dL_law_1051 rfl ?_
      refine X_aload_n dL_law_1052 rfl ?_
      refine X_iload_n dL_law_1053 rfl ?_
      refine X_iconst dL_law_1054 (by decide) ?_
      refine X_iaddN dL_law_1055 hc142.1 hc142.2.1 ?_
      refine X_xget dL_law_1056 hc142.2.2.1 hc142.2.2.2.1 ?_
      refine X_aload_n dL_law_1057 rfl ?_
      refine X_iload_n dL_law_1058 rfl ?_
      refine X_iconst dL_law_1059 (by decide) ?_
      refine X_iaddN dL_law_1060 hc142.2.2.2.2.1 hc142.2.2.2.2.2.1 ?_
      refine X_xget dL_law_1061 hc142.2.2.2.2.2.2.1 hc142.2.2.2.2.2.2.2.1 ?_
      refine X_invV (ci := 12) (as := [vi ((G.2.2.2.2.2.2.2 (x3 + 1).toNat).toInt), vi ((G.2.2.2.2.2.2.2 (x3 + 2).toNat).toInt)]) (st := [vi z141]) okX12_member dL_law_1062 km_RL_116 rfl rfl (Nat.le_of_ble_eq_true rfl) rfl rfl hc142.2.2.2.2.2.2.2.2.1 (CT.imp hc142.2.2.2.2.2.2.2.2.2 (fun z143 S143 V143 mc143 ms143 hc144 => ?_))
      refine X_icmp_eq dL_law_1065 (tgt := 1268) rfl (fun c145 => ?_) (fun c145 => ?_)
      · refine X_iincN dL_law_1268 rfl (by decide) rfl (e := x3 + 5) rfl (hc144.1 c145).1 (hc144.1 c145).2.1 ?_
        refine X_goto dL_law_1271 (tgt := 18) rfl ?_
        exact (hc144.1 c145).2.2
      · refine X_iconst dL_law_1068 (by decide) ?_
        exact X_ret (z := 0) dL_law_1069 rfl (fun _ => Or.inl rfl) (hc144.2 c145)
    by_cases c146 : (bAnd ((G.2.2.2.2.2.2.2 (x3).toNat).toInt) 31) = 24
    · refine X_table dL_law_32 1070 1038 (by rw [c146]; rfl) rfl ?_
      refine X_aload_n dL_law_1070 rfl ?_
      refine X_aload_n dL_law_1071 rfl ?_
      refine X_iload_n dL_law_1072 rfl ?_
      refine X_iconst dL_law_1073 (by decide) ?_
      refine X_iaddN dL_law_1074 ((((((((((((((((((((((((((h.2.2.2 c1).2.2.2 c2).2 c8).2 c14).2 c20).2 c26).2 c32).2 c38).2 c44).2 c50).2 c56).2 c62).2 c68).2 c74).2 c80).2 c86).2 c92).2 c98).2 c104).2 c110).2 c116).2 c122).2 c128).2 c134).2 c140).1 c146).1 ((((((((((((((((((((((((((h.2.2.2 c1).2.2.2 c2).2 c8).2 c14).2 c20).2 c26).2 c32).2 c38).2 c44).2 c50).2 c56).2 c62).2 c68).2 c74).2 c80).2 c86).2 c92).2 c98).2 c104).2 c110).2 c116).2 c122).2 c128).2 c134).2 c140).1 c146).2.1 ?_
      refine X_xget dL_law_1075 ((((((((((((((((((((((((((h.2.2.2 c1).2.2.2 c2).2 c8).2 c14).2 c20).2 c26).2 c32).2 c38).2 c44).2 c50).2 c56).2 c62).2 c68).2 c74).2 c80).2 c86).2 c92).2 c98).2 c104).2 c110).2 c116).2 c122).2 c128).2 c134).2 c140).1 c146).2.2.1 ((((((((((((((((((((((((((h.2.2.2 c1).2.2.2 c2).2 c8).2 c14).2 c20).2 c26).2 c32).2 c38).2 c44).2 c50).2 c56).2 c62).2 c68).2 c74).2 c80).2 c86).2 c92).2 c98).2 c104).2 c110).2 c116).2 c122).2 c128).2 c134).2 c140).1 c146).2.2.2.1 ?_
      refine X_aload_n dL_law_1076 rfl ?_
      refine X_iload_n dL_law_1077 rfl ?_
      refine X_iconst dL_law_1078 (by decide) ?_
      refine X_iaddN dL_law_1079 ((((((((((((((((((((((((((h.2.2.2 c1).2.2.2 c2).2 c8).2 c14).2 c20).2 c26).2 c32).2 c38).2 c44).2 c50).2 c56).2 c62).2 c68).2 c74).2 c80).2 c86).2 c92).2 c98).2 c104).2 c110).2 c116).2 c122).2 c128).2 c134).2 c140).1 c146).2.2.2.2.1 ((((((((((((((((((((((((((h.2.2.2 c1).2.2.2 c2).2 c8).2 c14).2 c20).2 c26).2 c32).2 c38).2 c44).2 c50).2 c56).2 c62).2 c68).2 c74).2 c80).2 c86).2 c92).2 c98).2 c104).2 c110).2 c116).2 c122).2 c128).2 c134).2 c140).1 c146).2.2.2.2.2.1 ?_
      refine X_xget dL_law_1080 ((((((((((((((((((((((((((h.2.2.2 c1).2.2.2 c2).2 c8).2 c14).2 c20).2 c26).2 c32).2 c38).2 c44).2 c50).2 c56).2 c62).2 c68).2 c74).2 c80).2 c86).2 c92).2 c98).2 c104).2 c110).2 c116).2 c122).2 c128).2 c134).2 c140).1 c146).2.2.2.2.2.2.1 ((((((((((((((((((((((((((h.2.2.2 c1).2.2.2 c2).2 c8).2 c14).2 c20).2 c26).2 c32).2 c38).2 c44).2 c50).2 c56).2 c62).2 c68).2 c74).2 c80).2 c86).2 c92).2 c98).2 c104).2 c110).2 c116).2 c122).2 c128).2 c134).2 c140).1 c146).2.2.2.2.2.2.2.1 ?_
      refine X_invV (ci := 11) (as := [vi ((G.2.2.2.2.2.2.2 (x3 + 1).toNat).toInt), vi ((G.2.2.2.2.2.2.2 (x3 + 2).toNat).toInt)]) (st := []) okX11_map dL_law_1081 km_RL_117 rfl rfl (Nat.le_of_ble_eq_true rfl) rfl rfl ((((((((((((((((((((((((((h.2.2.2 c1).2.2.2 c2).2 c8).2 c14).2 c20).2 c26).2 c32).2 c38).2 c44).2 c50).2 c56).2 c62).2 c68).2 c74).2 c80).2 c86).2 c92).2 c98).2 c104).2 c110).2 c116).2 c122).2 c128).2 c134).2 c140).1 c146).2.2.2.2.2.2.2.2.1 (CT.imp ((((((((((((((((((((((((((h.2.2.2 c1).2.2.2 c2).2 c8).2 c14).2 c20).2 c26).2 c32).2 c38).2 c44).2 c50).2 c56).2 c62).2 c68).2 c74).2 c80).2 c86).2 c92).2 c98).2 c104).2 c110).2 c116).2 c122).2 c128).2 c134).2 c140).1 c146).2.2.2.2.2.2.2.2.2 (fun z147 S147 V147 mc147 ms147 hc148 => ?_))
      refine X_aload_n dL_law_1084 rfl ?_
      refine X_aload_n dL_law_1085 rfl ?_
      refine X_iload_n dL_law_1086 rfl ?_
      refine X_iconst dL_law_1087 (by decide) ?_
      refine X_iaddN dL_law_1088 hc148.1 hc148.2.1 ?_
      refine X_xget dL_law_1089 hc148.2.2.1 hc148.2.2.2.1 ?_
      refine X_aload_n dL_law_1090 rfl ?_
      refine X_iload_n dL_law_1091 rfl ?_
      refine X_iconst dL_law_1092 (by decide) ?_
      refine X_iaddN dL_law_1093 hc148.2.2.2.2.1 hc148.2.2.2.2.2.1 ?_
      refine X_xget dL_law_1094 hc148.2.2.2.2.2.2.1 hc148.2.2.2.2.2.2.2.1 ?_
      refine X_invV (ci := 12) (as := [vi ((G.2.2.2.2.2.2.2 (x3 + 1).toNat).toInt), vi ((G.2.2.2.2.2.2.2 (x3 + 2).toNat).toInt)]) (st := [vi z147]) okX12_map dL_law_1095 km_RL_120 rfl rfl (Nat.le_of_ble_eq_true rfl) rfl rfl hc148.2.2.2.2.2.2.2.2.1 (CT.imp hc148.2.2.2.2.2.2.2.2.2 (fun z149 S149 V149 mc149 ms149 hc150 => ?_))
      refine X_icmp_eq dL_law_1098 (tgt := 1268) rfl (fun c151 => ?_) (fun c151 => ?_)
      · refine X_iincN dL_law_1268 rfl (by decide) rfl (e := x3 + 5) rfl (hc150.1 c151).1 (hc150.1 c151).2.1 ?_
        refine X_goto dL_law_1271 (tgt := 18) rfl ?_
        exact (hc150.1 c151).2.2
      · refine X_iconst dL_law_1101 (by decide) ?_
        exact X_ret (z := 0) dL_law_1102 rfl (fun _ => Or.inl rfl) (hc150.2 c151)
    by_cases c152 : (bAnd ((G.2.2.2.2.2.2.2 (x3).toNat).toInt) 31) = 25
    · refine X_table dL_law_32 1103 1071 (by rw [c152]; rfl) rfl ?_
      refine X_aload_n dL_law_1103 rfl ?_
      refine X_aload_n dL_law_1104 rfl ?_
      refine X_iload_n dL_law_1105 rfl ?_
      refine X_iconst dL_law_1106 (by decide) ?_
      refine X_iaddN dL_law_1107 (((((((((((((((((((((((((((h.2.2.2 c1).2.2.2 c2).2 c8).2 c14).2 c20).2 c26).2 c32).2 c38).2 c44).2 c50).2 c56).2 c62).2 c68).2 c74).2 c80).2 c86).2 c92).2 c98).2 c104).2 c110).2 c116).2 c122).2 c128).2 c134).2 c140).2 c146).1 c152).1 (((((((((((((((((((((((((((h.2.2.2 c1).2.2.2 c2).2 c8).2 c14).2 c20).2 c26).2 c32).2 c38).2 c44).2 c50).2 c56).2 c62).2 c68).2 c74).2 c80).2 c86).2 c92).2 c98).2 c104).2 c110).2 c116).2 c122).2 c128).2 c134).2 c140).2 c146).1 c152).2.1 ?_
      refine X_xget dL_law_1108 (((((((((((((((((((((((((((h.2.2.2 c1).2.2.2 c2).2 c8).2 c14).2 c20).2 c26).2 c32).2 c38).2 c44).2 c50).2 c56).2 c62).2 c68).2 c74).2 c80).2 c86).2 c92).2 c98).2 c104).2 c110).2 c116).2 c122).2 c128).2 c134).2 c140).2 c146).1 c152).2.2.1 (((((((((((((((((((((((((((h.2.2.2 c1).2.2.2 c2).2 c8).2 c14).2 c20).2 c26).2 c32).2 c38).2 c44).2 c50).2 c56).2 c62).2 c68).2 c74).2 c80).2 c86).2 c92).2 c98).2 c104).2 c110).2 c116).2 c122).2 c128).2 c134).2 c140).2 c146).1 c152).2.2.2.1 ?_
      refine X_aload_n dL_law_1109 rfl ?_
      refine X_iload_n dL_law_1110 rfl ?_
      refine X_iconst dL_law_1111 (by decide) ?_
      refine X_iaddN dL_law_1112 (((((((((((((((((((((((((((h.2.2.2 c1).2.2.2 c2).2 c8).2 c14).2 c20).2 c26).2 c32).2 c38).2 c44).2 c50).2 c56).2 c62).2 c68).2 c74).2 c80).2 c86).2 c92).2 c98).2 c104).2 c110).2 c116).2 c122).2 c128).2 c134).2 c140).2 c146).1 c152).2.2.2.2.1 (((((((((((((((((((((((((((h.2.2.2 c1).2.2.2 c2).2 c8).2 c14).2 c20).2 c26).2 c32).2 c38).2 c44).2 c50).2 c56).2 c62).2 c68).2 c74).2 c80).2 c86).2 c92).2 c98).2 c104).2 c110).2 c116).2 c122).2 c128).2 c134).2 c140).2 c146).1 c152).2.2.2.2.2.1 ?_
      refine X_xget dL_law_1113 (((((((((((((((((((((((((((h.2.2.2 c1).2.2.2 c2).2 c8).2 c14).2 c20).2 c26).2 c32).2 c38).2 c44).2 c50).2 c56).2 c62).2 c68).2 c74).2 c80).2 c86).2 c92).2 c98).2 c104).2 c110).2 c116).2 c122).2 c128).2 c134).2 c140).2 c146).1 c152).2.2.2.2.2.2.1 (((((((((((((((((((((((((((h.2.2.2 c1).2.2.2 c2).2 c8).2 c14).2 c20).2 c26).2 c32).2 c38).2 c44).2 c50).2 c56).2 c62).2 c68).2 c74).2 c80).2 c86).2 c92).2 c98).2 c104).2 c110).2 c116).2 c122).2 c128).2 c134).2 c140).2 c146).1 c152).2.2.2.2.2.2.2.1 ?_
      refine X_aload_n dL_law_1114 rfl ?_
      refine X_iload_n dL_law_1115 rfl ?_
      refine X_iconst dL_law_1116 (by decide) ?_
      refine X_iaddN dL_law_1117 (((((((((((((((((((((((((((h.2.2.2 c1).2.2.2 c2).2 c8).2 c14).2 c20).2 c26).2 c32).2 c38).2 c44).2 c50).2 c56).2 c62).2 c68).2 c74).2 c80).2 c86).2 c92).2 c98).2 c104).2 c110).2 c116).2 c122).2 c128).2 c134).2 c140).2 c146).1 c152).2.2.2.2.2.2.2.2.1 (((((((((((((((((((((((((((h.2.2.2 c1).2.2.2 c2).2 c8).2 c14).2 c20).2 c26).2 c32).2 c38).2 c44).2 c50).2 c56).2 c62).2 c68).2 c74).2 c80).2 c86).2 c92).2 c98).2 c104).2 c110).2 c116).2 c122).2 c128).2 c134).2 c140).2 c146).1 c152).2.2.2.2.2.2.2.2.2.1 ?_
      refine X_xget dL_law_1118 (((((((((((((((((((((((((((h.2.2.2 c1).2.2.2 c2).2 c8).2 c14).2 c20).2 c26).2 c32).2 c38).2 c44).2 c50).2 c56).2 c62).2 c68).2 c74).2 c80).2 c86).2 c92).2 c98).2 c104).2 c110).2 c116).2 c122).2 c128).2 c134).2 c140).2 c146).1 c152).2.2.2.2.2.2.2.2.2.2.1 (((((((((((((((((((((((((((h.2.2.2 c1).2.2.2 c2).2 c8).2 c14).2 c20).2 c26).2 c32).2 c38).2 c44).2 c50).2 c56).2 c62).2 c68).2 c74).2 c80).2 c86).2 c92).2 c98).2 c104).2 c110).2 c116).2 c122).2 c128).2 c134).2 c140).2 c146).1 c152).2.2.2.2.2.2.2.2.2.2.2.1 ?_
      refine X_invV (ci := 11) (as := [vi ((G.2.2.2.2.2.2.2 (x3 + 1).toNat).toInt), vi ((G.2.2.2.2.2.2.2 (x3 + 2).toNat).toInt), vi ((G.2.2.2.2.2.2.2 (x3 + 3).toNat).toInt)]) (st := []) okX11_put dL_law_1119 km_RL_121 rfl rfl (Nat.le_of_ble_eq_true rfl) rfl rfl (((((((((((((((((((((((((((h.2.2.2 c1).2.2.2 c2).2 c8).2 c14).2 c20).2 c26).2 c32).2 c38).2 c44).2 c50).2 c56).2 c62).2 c68).2 c74).2 c80).2 c86).2 c92).2 c98).2 c104).2 c110).2 c116).2 c122).2 c128).2 c134).2 c140).2 c146).1 c152).2.2.2.2.2.2.2.2.2.2.2.2.1 (CT.imp (((((((((((((((((((((((((((h.2.2.2 c1).2.2.2 c2).2 c8).2 c14).2 c20).2 c26).2 c32).2 c38).2 c44).2 c50).2 c56).2 c62).2 c68).2 c74).2 c80).2 c86).2 c92).2 c98).2 c104).2 c110).2 c116).2 c122).2 c128).2 c134).2 c140).2 c146).1 c152).2.2.2.2.2.2.2.2.2.2.2.2.2 (fun z153 S153 V153 mc153 ms153 hc154 => ?_))
      refine X_aload_n dL_law_1122 rfl ?_
      refine X_aload_n dL_law_1123 rfl ?_
      refine X_iload_n dL_law_1124 rfl ?_
      refine X_iconst dL_law_1125 (by decide) ?_
      refine X_iaddN dL_law_1126 hc154.1 hc154.2.1 ?_
      refine X_xget dL_law_1127 hc154.2.2.1 hc154.2.2.2.1 ?_
      refine X_aload_n dL_law_1128 rfl ?_
      refine X_iload_n dL_law_1129 rfl ?_
      refine X_iconst dL_law_1130 (by decide) ?_
      refine X_iaddN dL_law_1131 hc154.2.2.2.2.1 hc154.2.2.2.2.2.1 ?_
      refine X_xget dL_law_1132 hc154.2.2.2.2.2.2.1 hc154.2.2.2.2.2.2.2.1 ?_
      refine X_aload_n dL_law_1133 rfl ?_
      refine X_iload_n dL_law_1134 rfl ?_
      refine X_iconst dL_law_1135 (by decide) ?_
      refine X_iaddN dL_law_1136 hc154.2.2.2.2.2.2.2.2.1 hc154.2.2.2.2.2.2.2.2.2.1 ?_
      refine X_xget dL_law_1137 hc154.2.2.2.2.2.2.2.2.2.2.1 hc154.2.2.2.2.2.2.2.2.2.2.2.1 ?_
      refine X_invV (ci := 12) (as := [vi ((G.2.2.2.2.2.2.2 (x3 + 1).toNat).toInt), vi ((G.2.2.2.2.2.2.2 (x3 + 2).toNat).toInt), vi ((G.2.2.2.2.2.2.2 (x3 + 3).toNat).toInt)]) (st := [vi z153]) okX12_put dL_law_1138 km_RL_124 rfl rfl (Nat.le_of_ble_eq_true rfl) rfl rfl hc154.2.2.2.2.2.2.2.2.2.2.2.2.1 (CT.imp hc154.2.2.2.2.2.2.2.2.2.2.2.2.2 (fun z155 S155 V155 mc155 ms155 hc156 => ?_))
      refine X_icmp_eq dL_law_1141 (tgt := 1268) rfl (fun c157 => ?_) (fun c157 => ?_)
      · refine X_iincN dL_law_1268 rfl (by decide) rfl (e := x3 + 5) rfl (hc156.1 c157).1 (hc156.1 c157).2.1 ?_
        refine X_goto dL_law_1271 (tgt := 18) rfl ?_
        exact (hc156.1 c157).2.2
      · refine X_iconst dL_law_1144 (by decide) ?_
        exact X_ret (z := 0) dL_law_1145 rfl (fun _ => Or.inl rfl) (hc156.2 c157)
    by_cases c158 : (bAnd ((G.2.2.2.2.2.2.2 (x3).toNat).toInt) 31) = 26
    · refine X_table dL_law_32 1146 1114 (by rw [c158]; rfl) rfl ?_
      refine X_aload_n dL_law_1146 rfl ?_
      refine X_aload_n dL_law_1147 rfl ?_
      refine X_iload_n dL_law_1148 rfl ?_
      refine X_iconst dL_law_1149 (by decide) ?_
      refine X_iaddN dL_law_1150 ((((((((((((((((((((((((((((h.2.2.2 c1).2.2.2 c2).2 c8).2 c14).2 c20).2 c26).2 c32).2 c38).2 c44).2 c50).2 c56).2 c62).2 c68).2 c74).2 c80).2 c86).2 c92).2 c98).2 c104).2 c110).2 c116).2 c122).2 c128).2 c134).2 c140).2 c146).2 c152).1 c158).1 ((((((((((((((((((((((((((((h.2.2.2 c1).2.2.2 c2).2 c8).2 c14).2 c20).2 c26).2 c32).2 c38).2 c44).2 c50).2 c56).2 c62).2 c68).2 c74).2 c80).2 c86).2 c92).2 c98).2 c104).2 c110).2 c116).2 c122).2 c128).2 c134).2 c140).2 c146).2 c152).1 c158).2.1 ?_
      refine X_xget dL_law_1151 ((((((((((((((((((((((((((((h.2.2.2 c1).2.2.2 c2).2 c8).2 c14).2 c20).2 c26).2 c32).2 c38).2 c44).2 c50).2 c56).2 c62).2 c68).2 c74).2 c80).2 c86).2 c92).2 c98).2 c104).2 c110).2 c116).2 c122).2 c128).2 c134).2 c140).2 c146).2 c152).1 c158).2.2.1 ((((((((((((((((((((((((((((h.2.2.2 c1).2.2.2 c2).2 c8).2 c14).2 c20).2 c26).2 c32).2 c38).2 c44).2 c50).2 c56).2 c62).2 c68).2 c74).2 c80).2 c86).2 c92).2 c98).2 c104).2 c110).2 c116).2 c122).2 c128).2 c134).2 c140).2 c146).2 c152).1 c158).2.2.2.1 ?_
      refine X_aload_n dL_law_1152 rfl ?_
      refine X_iload_n dL_law_1153 rfl ?_
      refine X_iconst dL_law_1154 (by decide) ?_
      refine X_iaddN dL_law_1155 ((((((((((((((((((((((((((((h.2.2.2 c1).2.2.2 c2).2 c8).2 c14).2 c20).2 c26).2 c32).2 c38).2 c44).2 c50).2 c56).2 c62).2 c68).2 c74).2 c80).2 c86).2 c92).2 c98).2 c104).2 c110).2 c116).2 c122).2 c128).2 c134).2 c140).2 c146).2 c152).1 c158).2.2.2.2.1 ((((((((((((((((((((((((((((h.2.2.2 c1).2.2.2 c2).2 c8).2 c14).2 c20).2 c26).2 c32).2 c38).2 c44).2 c50).2 c56).2 c62).2 c68).2 c74).2 c80).2 c86).2 c92).2 c98).2 c104).2 c110).2 c116).2 c122).2 c128).2 c134).2 c140).2 c146).2 c152).1 c158).2.2.2.2.2.1 ?_
      refine X_xget dL_law_1156 ((((((((((((((((((((((((((((h.2.2.2 c1).2.2.2 c2).2 c8).2 c14).2 c20).2 c26).2 c32).2 c38).2 c44).2 c50).2 c56).2 c62).2 c68).2 c74).2 c80).2 c86).2 c92).2 c98).2 c104).2 c110).2 c116).2 c122).2 c128).2 c134).2 c140).2 c146).2 c152).1 c158).2.2.2.2.2.2.1 ((((((((((((((((((((((((((((h.2.2.2 c1).2.2.2 c2).2 c8).2 c14).2 c20).2 c26).2 c32).2 c38).2 c44).2 c50).2 c56).2 c62).2 c68).2 c74).2 c80).2 c86).2 c92).2 c98).2 c104).2 c110).2 c116).2 c122).2 c128).2 c134).2 c140).2 c146).2 c152).1 c158).2.2.2.2.2.2.2.1 ?_
      refine X_invV (ci := 11) (as := [vi ((G.2.2.2.2.2.2.2 (x3 + 1).toNat).toInt), vi ((G.2.2.2.2.2.2.2 (x3 + 2).toNat).toInt)]) (st := []) okX11_get dL_law_1157 km_RL_125 rfl rfl (Nat.le_of_ble_eq_true rfl) rfl rfl ((((((((((((((((((((((((((((h.2.2.2 c1).2.2.2 c2).2 c8).2 c14).2 c20).2 c26).2 c32).2 c38).2 c44).2 c50).2 c56).2 c62).2 c68).2 c74).2 c80).2 c86).2 c92).2 c98).2 c104).2 c110).2 c116).2 c122).2 c128).2 c134).2 c140).2 c146).2 c152).1 c158).2.2.2.2.2.2.2.2.1 (CT.imp ((((((((((((((((((((((((((((h.2.2.2 c1).2.2.2 c2).2 c8).2 c14).2 c20).2 c26).2 c32).2 c38).2 c44).2 c50).2 c56).2 c62).2 c68).2 c74).2 c80).2 c86).2 c92).2 c98).2 c104).2 c110).2 c116).2 c122).2 c128).2 c134).2 c140).2 c146).2 c152).1 c158).2.2.2.2.2.2.2.2.2 (fun z159 S159 V159 mc159 ms159 hc160 => ?_))
      refine X_aload_n dL_law_1160 rfl ?_
      refine X_aload_n dL_law_1161 rfl ?_
      refine X_iload_n dL_law_1162 rfl ?_
      refine X_iconst dL_law_1163 (by decide) ?_
      refine X_iaddN dL_law_1164 hc160.1 hc160.2.1 ?_
      refine X_xget dL_law_1165 hc160.2.2.1 hc160.2.2.2.1 ?_
      refine X_aload_n dL_law_1166 rfl ?_
      refine X_iload_n dL_law_1167 rfl ?_
      refine X_iconst dL_law_1168 (by decide) ?_
      refine X_iaddN dL_law_1169 hc160.2.2.2.2.1 hc160.2.2.2.2.2.1 ?_
      refine X_xget dL_law_1170 hc160.2.2.2.2.2.2.1 hc160.2.2.2.2.2.2.2.1 ?_
      refine X_invV (ci := 12) (as := [vi ((G.2.2.2.2.2.2.2 (x3 + 1).toNat).toInt), vi ((G.2.2.2.2.2.2.2 (x3 + 2).toNat).toInt)]) (st := [vi z159]) okX12_get dL_law_1171 km_RL_128 rfl rfl (Nat.le_of_ble_eq_true rfl) rfl rfl hc160.2.2.2.2.2.2.2.2.1 (CT.imp hc160.2.2.2.2.2.2.2.2.2 (fun z161 S161 V161 mc161 ms161 hc162 => ?_))
      refine X_icmp_eq dL_law_1174 (tgt := 1268) rfl (fun c163 => ?_) (fun c163 => ?_)
      · refine X_iincN dL_law_1268 rfl (by decide) rfl (e := x3 + 5) rfl (hc162.1 c163).1 (hc162.1 c163).2.1 ?_
        refine X_goto dL_law_1271 (tgt := 18) rfl ?_
        exact (hc162.1 c163).2.2
      · refine X_iconst dL_law_1177 (by decide) ?_
        exact X_ret (z := 0) dL_law_1178 rfl (fun _ => Or.inl rfl) (hc162.2 c163)
    by_cases c164 : (bAnd ((G.2.2.2.2.2.2.2 (x3).toNat).toInt) 31) = 27
    · refine X_table dL_law_32 1179 1147 (by rw [c164]; rfl) rfl ?_
      refine X_aload_n dL_law_1179 rfl ?_
      refine X_aload_n dL_law_1180 rfl ?_
      refine X_iload_n dL_law_1181 rfl ?_
      refine X_iconst dL_law_1182 (by decide) ?_
      refine X_iaddN dL_law_1183 (((((((((((((((((((((((((((((h.2.2.2 c1).2.2.2 c2).2 c8).2 c14).2 c20).2 c26).2 c32).2 c38).2 c44).2 c50).2 c56).2 c62).2 c68).2 c74).2 c80).2 c86).2 c92).2 c98).2 c104).2 c110).2 c116).2 c122).2 c128).2 c134).2 c140).2 c146).2 c152).2 c158).1 c164).1 (((((((((((((((((((((((((((((h.2.2.2 c1).2.2.2 c2).2 c8).2 c14).2 c20).2 c26).2 c32).2 c38).2 c44).2 c50).2 c56).2 c62).2 c68).2 c74).2 c80).2 c86).2 c92).2 c98).2 c104).2 c110).2 c116).2 c122).2 c128).2 c134).2 c140).2 c146).2 c152).2 c158).1 c164).2.1 ?_
      refine X_xget dL_law_1184 (((((((((((((((((((((((((((((h.2.2.2 c1).2.2.2 c2).2 c8).2 c14).2 c20).2 c26).2 c32).2 c38).2 c44).2 c50).2 c56).2 c62).2 c68).2 c74).2 c80).2 c86).2 c92).2 c98).2 c104).2 c110).2 c116).2 c122).2 c128).2 c134).2 c140).2 c146).2 c152).2 c158).1 c164).2.2.1 (((((((((((((((((((((((((((((h.2.2.2 c1).2.2.2 c2).2 c8).2 c14).2 c20).2 c26).2 c32).2 c38).2 c44).2 c50).2 c56).2 c62).2 c68).2 c74).2 c80).2 c86).2 c92).2 c98).2 c104).2 c110).2 c116).2 c122).2 c128).2 c134).2 c140).2 c146).2 c152).2 c158).1 c164).2.2.2.1 ?_
      refine X_invV (ci := 11) (as := [vi ((G.2.2.2.2.2.2.2 (x3 + 1).toNat).toInt)]) (st := []) okX11_encode dL_law_1185 km_RL_129 rfl rfl (Nat.le_of_ble_eq_true rfl) rfl rfl (((((((((((((((((((((((((((((h.2.2.2 c1).2.2.2 c2).2 c8).2 c14).2 c20).2 c26).2 c32).2 c38).2 c44).2 c50).2 c56).2 c62).2 c68).2 c74).2 c80).2 c86).2 c92).2 c98).2 c104).2 c110).2 c116).2 c122).2 c128).2 c134).2 c140).2 c146).2 c152).2 c158).1 c164).2.2.2.2.1 (CT.imp (((((((((((((((((((((((((((((h.2.2.2 c1).2.2.2 c2).2 c8).2 c14).2 c20).2 c26).2 c32).2 c38).2 c44).2 c50).2 c56).2 c62).2 c68).2 c74).2 c80).2 c86).2 c92).2 c98).2 c104).2 c110).2 c116).2 c122).2 c128).2 c134).2 c140).2 c146).2 c152).2 c158).1 c164).2.2.2.2.2 (fun z165 S165 V165 mc165 ms165 hc166 => ?_))
      refine X_aload_n dL_law_1188 rfl ?_
      refine X_aload_n dL_law_1189 rfl ?_
      refine X_iload_n dL_law_1190 rfl ?_
      refine X_iconst dL_law_1191 (by decide) ?_
      refine X_iaddN dL_law_1192 hc166.1 hc166.2.1 ?_
      refine X_xget dL_law_1193 hc166.2.2.1 hc166.2.2.2.1 ?_
      refine X_invV (ci := 12) (as := [vi ((G.2.2.2.2.2.2.2 (x3 + 1).toNat).toInt)]) (st := [vi z165]) okX12_encode dL_law_1194 km_RL_132 rfl rfl (Nat.le_of_ble_eq_true rfl) rfl rfl hc166.2.2.2.2.1 (CT.imp hc166.2.2.2.2.2 (fun z167 S167 V167 mc167 ms167 hc168 => ?_))
      refine X_icmp_eq dL_law_1197 (tgt := 1268) rfl (fun c169 => ?_) (fun c169 => ?_)
      · refine X_iincN dL_law_1268 rfl (by decide) rfl (e := x3 + 5) rfl (hc168.1 c169).1 (hc168.1 c169).2.1 ?_
        refine X_goto dL_law_1271 (tgt := 18) rfl ?_
        exact (hc168.1 c169).2.2
      · refine X_iconst dL_law_1200 (by decide) ?_
        exact X_ret (z := 0) dL_law_1201 rfl (fun _ => Or.inl rfl) (hc168.2 c169)
    by_cases c170 : (bAnd ((G.2.2.2.2.2.2.2 (x3).toNat).toInt) 31) = 28
    · refine X_table dL_law_32 1202 1170 (by rw [c170]; rfl) rfl ?_
      refine X_aload_n dL_law_1202 rfl ?_
      refine X_aload_n dL_law_1203 rfl ?_
      refine X_iload_n dL_law_1204 rfl ?_
      refine X_iconst dL_law_1205 (by decide) ?_
      refine X_iaddN dL_law_1206 ((((((((((((((((((((((((((((((h.2.2.2 c1).2.2.2 c2).2 c8).2 c14).2 c20).2 c26).2 c32).2 c38).2 c44).2 c50).2 c56).2 c62).2 c68).2 c74).2 c80).2 c86).2 c92).2 c98).2 c104).2 c110).2 c116).2 c122).2 c128).2 c134).2 c140).2 c146).2 c152).2 c158).2 c164).1 c170).1 ((((((((((((((((((((((((((((((h.2.2.2 c1).2.2.2 c2).2 c8).2 c14).2 c20).2 c26).2 c32).2 c38).2 c44).2 c50).2 c56).2 c62).2 c68).2 c74).2 c80).2 c86).2 c92).2 c98).2 c104).2 c110).2 c116).2 c122).2 c128).2 c134).2 c140).2 c146).2 c152).2 c158).2 c164).1 c170).2.1 ?_
      refine X_xget dL_law_1207 ((((((((((((((((((((((((((((((h.2.2.2 c1).2.2.2 c2).2 c8).2 c14).2 c20).2 c26).2 c32).2 c38).2 c44).2 c50).2 c56).2 c62).2 c68).2 c74).2 c80).2 c86).2 c92).2 c98).2 c104).2 c110).2 c116).2 c122).2 c128).2 c134).2 c140).2 c146).2 c152).2 c158).2 c164).1 c170).2.2.1 ((((((((((((((((((((((((((((((h.2.2.2 c1).2.2.2 c2).2 c8).2 c14).2 c20).2 c26).2 c32).2 c38).2 c44).2 c50).2 c56).2 c62).2 c68).2 c74).2 c80).2 c86).2 c92).2 c98).2 c104).2 c110).2 c116).2 c122).2 c128).2 c134).2 c140).2 c146).2 c152).2 c158).2 c164).1 c170).2.2.2.1 ?_
      refine X_aload_n dL_law_1208 rfl ?_
      refine X_iload_n dL_law_1209 rfl ?_
      refine X_iconst dL_law_1210 (by decide) ?_
      refine X_iaddN dL_law_1211 ((((((((((((((((((((((((((((((h.2.2.2 c1).2.2.2 c2).2 c8).2 c14).2 c20).2 c26).2 c32).2 c38).2 c44).2 c50).2 c56).2 c62).2 c68).2 c74).2 c80).2 c86).2 c92).2 c98).2 c104).2 c110).2 c116).2 c122).2 c128).2 c134).2 c140).2 c146).2 c152).2 c158).2 c164).1 c170).2.2.2.2.1 ((((((((((((((((((((((((((((((h.2.2.2 c1).2.2.2 c2).2 c8).2 c14).2 c20).2 c26).2 c32).2 c38).2 c44).2 c50).2 c56).2 c62).2 c68).2 c74).2 c80).2 c86).2 c92).2 c98).2 c104).2 c110).2 c116).2 c122).2 c128).2 c134).2 c140).2 c146).2 c152).2 c158).2 c164).1 c170).2.2.2.2.2.1 ?_
      refine X_xget dL_law_1212 ((((((((((((((((((((((((((((((h.2.2.2 c1).2.2.2 c2).2 c8).2 c14).2 c20).2 c26).2 c32).2 c38).2 c44).2 c50).2 c56).2 c62).2 c68).2 c74).2 c80).2 c86).2 c92).2 c98).2 c104).2 c110).2 c116).2 c122).2 c128).2 c134).2 c140).2 c146).2 c152).2 c158).2 c164).1 c170).2.2.2.2.2.2.1 ((((((((((((((((((((((((((((((h.2.2.2 c1).2.2.2 c2).2 c8).2 c14).2 c20).2 c26).2 c32).2 c38).2 c44).2 c50).2 c56).2 c62).2 c68).2 c74).2 c80).2 c86).2 c92).2 c98).2 c104).2 c110).2 c116).2 c122).2 c128).2 c134).2 c140).2 c146).2 c152).2 c158).2 c164).1 c170).2.2.2.2.2.2.2.1 ?_
      refine X_aload_n dL_law_1213 rfl ?_
      refine X_iload_n dL_law_1214 rfl ?_
      refine X_iconst dL_law_1215 (by decide) ?_
      refine X_iaddN dL_law_1216 ((((((((((((((((((((((((((((((h.2.2.2 c1).2.2.2 c2).2 c8).2 c14).2 c20).2 c26).2 c32).2 c38).2 c44).2 c50).2 c56).2 c62).2 c68).2 c74).2 c80).2 c86).2 c92).2 c98).2 c104).2 c110).2 c116).2 c122).2 c128).2 c134).2 c140).2 c146).2 c152).2 c158).2 c164).1 c170).2.2.2.2.2.2.2.2.1 ((((((((((((((((((((((((((((((h.2.2.2 c1).2.2.2 c2).2 c8).2 c14).2 c20).2 c26).2 c32).2 c38).2 c44).2 c50).2 c56).2 c62).2 c68).2 c74).2 c80).2 c86).2 c92).2 c98).2 c104).2 c110).2 c116).2 c122).2 c128).2 c134).2 c140).2 c146).2 c152).2 c158).2 c164).1 c170).2.2.2.2.2.2.2.2.2.1 ?_
      refine X_xget dL_law_1217 ((((((((((((((((((((((((((((((h.2.2.2 c1).2.2.2 c2).2 c8).2 c14).2 c20).2 c26).2 c32).2 c38).2 c44).2 c50).2 c56).2 c62).2 c68).2 c74).2 c80).2 c86).2 c92).2 c98).2 c104).2 c110).2 c116).2 c122).2 c128).2 c134).2 c140).2 c146).2 c152).2 c158).2 c164).1 c170).2.2.2.2.2.2.2.2.2.2.1 ((((((((((((((((((((((((((((((h.2.2.2 c1).2.2.2 c2).2 c8).2 c14).2 c20).2 c26).2 c32).2 c38).2 c44).2 c50).2 c56).2 c62).2 c68).2 c74).2 c80).2 c86).2 c92).2 c98).2 c104).2 c110).2 c116).2 c122).2 c128).2 c134).2 c140).2 c146).2 c152).2 c158).2 c164).1 c170).2.2.2.2.2.2.2.2.2.2.2.1 ?_
      refine X_invV (ci := 11) (as := [vi ((G.2.2.2.2.2.2.2 (x3 + 1).toNat).toInt), vi ((G.2.2.2.2.2.2.2 (x3 + 2).toNat).toInt), vi ((G.2.2.2.2.2.2.2 (x3 + 3).toNat).toInt)]) (st := []) okX11_signal dL_law_1218 km_RL_133 rfl rfl (Nat.le_of_ble_eq_true rfl) rfl rfl ((((((((((((((((((((((((((((((h.2.2.2 c1).2.2.2 c2).2 c8).2 c14).2 c20).2 c26).2 c32).2 c38).2 c44).2 c50).2 c56).2 c62).2 c68).2 c74).2 c80).2 c86).2 c92).2 c98).2 c104).2 c110).2 c116).2 c122).2 c128).2 c134).2 c140).2 c146).2 c152).2 c158).2 c164).1 c170).2.2.2.2.2.2.2.2.2.2.2.2.1 (CT.imp ((((((((((((((((((((((((((((((h.2.2.2 c1).2.2.2 c2).2 c8).2 c14).2 c20).2 c26).2 c32).2 c38).2 c44).2 c50).2 c56).2 c62).2 c68).2 c74).2 c80).2 c86).2 c92).2 c98).2 c104).2 c110).2 c116).2 c122).2 c128).2 c134).2 c140).2 c146).2 c152).2 c158).2 c164).1 c170).2.2.2.2.2.2.2.2.2.2.2.2.2 (fun z171 S171 V171 mc171 ms171 hc172 => ?_))
      refine X_aload_n dL_law_1221 rfl ?_
      refine X_aload_n dL_law_1222 rfl ?_
      refine X_iload_n dL_law_1223 rfl ?_
      refine X_iconst dL_law_1224 (by decide) ?_
      refine X_iaddN dL_law_1225 hc172.1 hc172.2.1 ?_
      refine X_xget dL_law_1226 hc172.2.2.1 hc172.2.2.2.1 ?_
      refine X_aload_n dL_law_1227 rfl ?_
      refine X_iload_n dL_law_1228 rfl ?_
      refine X_iconst dL_law_1229 (by decide) ?_
      refine X_iaddN dL_law_1230 hc172.2.2.2.2.1 hc172.2.2.2.2.2.1 ?_
      refine X_xget dL_law_1231 hc172.2.2.2.2.2.2.1 hc172.2.2.2.2.2.2.2.1 ?_
      refine X_aload_n dL_law_1232 rfl ?_
      refine X_iload_n dL_law_1233 rfl ?_
      refine X_iconst dL_law_1234 (by decide) ?_
      refine X_iaddN dL_law_1235 hc172.2.2.2.2.2.2.2.2.1 hc172.2.2.2.2.2.2.2.2.2.1 ?_
      refine X_xget dL_law_1236 hc172.2.2.2.2.2.2.2.2.2.2.1 hc172.2.2.2.2.2.2.2.2.2.2.2.1 ?_
      refine X_invV (ci := 12) (as := [vi ((G.2.2.2.2.2.2.2 (x3 + 1).toNat).toInt), vi ((G.2.2.2.2.2.2.2 (x3 + 2).toNat).toInt), vi ((G.2.2.2.2.2.2.2 (x3 + 3).toNat).toInt)]) (st := [vi z171]) okX12_signal dL_law_1237 km_RL_136 rfl rfl (Nat.le_of_ble_eq_true rfl) rfl rfl hc172.2.2.2.2.2.2.2.2.2.2.2.2.1 (CT.imp hc172.2.2.2.2.2.2.2.2.2.2.2.2.2 (fun z173 S173 V173 mc173 ms173 hc174 => ?_))
      refine X_icmp_eq dL_law_1240 (tgt := 1268) rfl (fun c175 => ?_) (fun c175 => ?_)
      · refine X_iincN dL_law_1268 rfl (by decide) rfl (e := x3 + 5) rfl (hc174.1 c175).1 (hc174.1 c175).2.1 ?_
        refine X_goto dL_law_1271 (tgt := 18) rfl ?_
        exact (hc174.1 c175).2.2
      · refine X_iconst dL_law_1243 (by decide) ?_
        exact X_ret (z := 0) dL_law_1244 rfl (fun _ => Or.inl rfl) (hc174.2 c175)
    by_cases c176 : (bAnd ((G.2.2.2.2.2.2.2 (x3).toNat).toInt) 31) = 29
    · refine X_table dL_law_32 1245 1213 (by rw [c176]; rfl) rfl ?_
      refine X_aload_n dL_law_1245 rfl ?_
      refine X_aload_n dL_law_1246 rfl ?_
      refine X_iload_n dL_law_1247 rfl ?_
      refine X_iconst dL_law_1248 (by decide) ?_
      refine X_iaddN dL_law_1249 (((((((((((((((((((((((((((((((h.2.2.2 c1).2.2.2 c2).2 c8).2 c14).2 c20).2 c26).2 c32).2 c38).2 c44).2 c50).2 c56).2 c62).2 c68).2 c74).2 c80).2 c86).2 c92).2 c98).2 c104).2 c110).2 c116).2 c122).2 c128).2 c134).2 c140).2 c146).2 c152).2 c158).2 c164).2 c170).1 c176).1 (((((((((((((((((((((((((((((((h.2.2.2 c1).2.2.2 c2).2 c8).2 c14).2 c20).2 c26).2 c32).2 c38).2 c44).2 c50).2 c56).2 c62).2 c68).2 c74).2 c80).2 c86).2 c92).2 c98).2 c104).2 c110).2 c116).2 c122).2 c128).2 c134).2 c140).2 c146).2 c152).2 c158).2 c164).2 c170).1 c176).2.1 ?_
      refine X_xget dL_law_1250 (((((((((((((((((((((((((((((((h.2.2.2 c1).2.2.2 c2).2 c8).2 c14).2 c20).2 c26).2 c32).2 c38).2 c44).2 c50).2 c56).2 c62).2 c68).2 c74).2 c80).2 c86).2 c92).2 c98).2 c104).2 c110).2 c116).2 c122).2 c128).2 c134).2 c140).2 c146).2 c152).2 c158).2 c164).2 c170).1 c176).2.2.1 (((((((((((((((((((((((((((((((h.2.2.2 c1).2.2.2 c2).2 c8).2 c14).2 c20).2 c26).2 c32).2 c38).2 c44).2 c50).2 c56).2 c62).2 c68).2 c74).2 c80).2 c86).2 c92).2 c98).2 c104).2 c110).2 c116).2 c122).2 c128).2 c134).2 c140).2 c146).2 c152).2 c158).2 c164).2 c170).1 c176).2.2.2.1 ?_
      refine X_invV (ci := 11) (as := [vi ((G.2.2.2.2.2.2.2 (x3 + 1).toNat).toInt)]) (st := []) okX11_decode dL_law_1251 km_RL_137 rfl rfl (Nat.le_of_ble_eq_true rfl) rfl rfl (((((((((((((((((((((((((((((((h.2.2.2 c1).2.2.2 c2).2 c8).2 c14).2 c20).2 c26).2 c32).2 c38).2 c44).2 c50).2 c56).2 c62).2 c68).2 c74).2 c80).2 c86).2 c92).2 c98).2 c104).2 c110).2 c116).2 c122).2 c128).2 c134).2 c140).2 c146).2 c152).2 c158).2 c164).2 c170).1 c176).2.2.2.2.1 (CT.imp (((((((((((((((((((((((((((((((h.2.2.2 c1).2.2.2 c2).2 c8).2 c14).2 c20).2 c26).2 c32).2 c38).2 c44).2 c50).2 c56).2 c62).2 c68).2 c74).2 c80).2 c86).2 c92).2 c98).2 c104).2 c110).2 c116).2 c122).2 c128).2 c134).2 c140).2 c146).2 c152).2 c158).2 c164).2 c170).1 c176).2.2.2.2.2 (fun z177 S177 V177 mc177 ms177 hc178 => ?_))
      refine X_aload_n dL_law_1254 rfl ?_
      refine X_aload_n dL_law_1255 rfl ?_
      refine X_iload_n dL_law_1256 rfl ?_
      refine X_iconst dL_law_1257 (by decide) ?_
      refine X_iaddN dL_law_1258 hc178.1 hc178.2.1 ?_
      refine X_xget dL_law_1259 hc178.2.2.1 hc178.2.2.2.1 ?_
      refine X_invV (ci := 12) (as := [vi ((G.2.2.2.2.2.2.2 (x3 + 1).toNat).toInt)]) (st := [vi z177]) okX12_decode dL_law_1260 km_RL_140 rfl rfl (Nat.le_of_ble_eq_true rfl) rfl rfl hc178.2.2.2.2.1 (CT.imp hc178.2.2.2.2.2 (fun z179 S179 V179 mc179 ms179 hc180 => ?_))
      refine X_icmp_eq dL_law_1263 (tgt := 1268) rfl (fun c181 => ?_) (fun c181 => ?_)
      · refine X_iincN dL_law_1268 rfl (by decide) rfl (e := x3 + 5) rfl (hc180.1 c181).1 (hc180.1 c181).2.1 ?_
        refine X_goto dL_law_1271 (tgt := 18) rfl ?_
        exact (hc180.1 c181).2.2
      · refine X_iconst dL_law_1266 (by decide) ?_
        exact X_ret (z := 0) dL_law_1267 rfl (fun _ => Or.inl rfl) (hc180.2 c181)
    refine X_table dL_law_32 1268 1236 (tbl_df (by omega)) rfl ?_
    refine X_iincN dL_law_1268 rfl (by decide) rfl (e := x3 + 5) rfl (((((((((((((((((((((((((((((((h.2.2.2 c1).2.2.2 c2).2 c8).2 c14).2 c20).2 c26).2 c32).2 c38).2 c44).2 c50).2 c56).2 c62).2 c68).2 c74).2 c80).2 c86).2 c92).2 c98).2 c104).2 c110).2 c116).2 c122).2 c128).2 c134).2 c140).2 c146).2 c152).2 c158).2 c164).2 c170).2 c176).1 (((((((((((((((((((((((((((((((h.2.2.2 c1).2.2.2 c2).2 c8).2 c14).2 c20).2 c26).2 c32).2 c38).2 c44).2 c50).2 c56).2 c62).2 c68).2 c74).2 c80).2 c86).2 c92).2 c98).2 c104).2 c110).2 c116).2 c122).2 c128).2 c134).2 c140).2 c146).2 c152).2 c158).2 c164).2 c170).2 c176).2.1 ?_
    refine X_goto dL_law_1271 (tgt := 18) rfl ?_
    exact (((((((((((((((((((((((((((((((h.2.2.2 c1).2.2.2 c2).2 c8).2 c14).2 c20).2 c26).2 c32).2 c38).2 c44).2 c50).2 c56).2 c62).2 c68).2 c74).2 c80).2 c86).2 c92).2 c98).2 c104).2 c110).2 c116).2 c122).2 c128).2 c134).2 c140).2 c146).2 c152).2 c158).2 c164).2 c170).2 c176).2.2
