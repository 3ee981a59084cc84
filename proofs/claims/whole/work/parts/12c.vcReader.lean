set_option maxRecDepth 10000 in
theorem vX5_init_0 {l : Launch} {G : GT} {Q : Int → Sh → Mem → Prop} {d : Nat} {S : Sh} {V : Mem} {mc ms : Nat} {x0 x1 : Int} (h : x0 ≠ 0 ∧ 1 ≤ d ∧ 1 ≤ mc ∧ 3 ≤ ms ∧ (∀ (S1 : Sh) (V1 : Mem) (r1 : Int) (mc1 ms1 : Nat), r1 = S.2.2 + 1 → S1 = nw S 2 0 → V1 = clr V r1 → mc1 = mc - 1 → ms1 = ms - 3 → r1 ≠ 0 ∧ CT l G bX1_init d mc1 ms1 [vr r1, vi 3000] S1 V1 (fun z3 S3 V3 mc3 ms3 => S3.1 x0 = 6 ∧ 0 ≤ (4 : Int) ∧ (4 : Int) ≤ 60000 ∧ 1 ≤ mc3 ∧ (4 : Int).toNat ≤ ms3 ∧ (∀ (S5 : Sh) (V5 : Mem) (r5 : Int) (mc5 ms5 : Nat), r5 = S3.2.2 + 1 → S5 = nw S3 22 4 → V5 = clr (up V3 x0 1 r1) r5 → mc5 = mc3 - 1 → ms5 = ms3 - (4 : Int).toNat → S5.1 x0 = 6 ∧ Q 0 S5 (up (up V5 x0 2 r5) x0 0 x1))))) : XJ l G bX5_init Q d 0 [vr x0, vr x1] [] S V mc ms := by
  refine X_aload_n dX5_init_0 rfl ?_
  refine X_objInit dX5_init_1 ⟨km_RX5_3, k_obj⟩ h.1 (Nat.le_of_ble_eq_true rfl) h.2.1 ?_
  refine X_aload_n dX5_init_4 rfl ?_
  refine X_newT (t := 2) (ci := 1) rfl dX5_init_5 rfl ⟨kc_RX5_9, kn_1⟩ kd_1 h.2.2.1 h.2.2.2.1 ?_
  generalize hShn2 : nw S 2 0 = S1
  generalize hVhn2 : clr V (S.2.2 + 1) = V1
  generalize hrhn2 : S.2.2 + 1 = r1 at hVhn2 ⊢
  generalize hmhn2 : mc - 1 = mc1
  generalize hkhn2 : ms - 3 = ms1
  have hn2 := h.2.2.2.2 S1 V1 r1 mc1 ms1 hrhn2.symm hShn2.symm hVhn2.symm hmhn2.symm hkhn2.symm
  refine X_dup dX5_init_8 (rv_cat _) ?_
  refine X_sipush dX5_init_9 (by decide) (by decide) ?_
  refine X_invI (as := [vi 3000]) (st := [vr r1, vr x0]) okX1_init dX5_init_12 km_RX5_11 rfl rfl (Nat.le_of_ble_eq_true rfl) hn2.1 (CT.imp hn2.2 (fun z3 S3 V3 mc3 ms3 hc4 => ?_))
  refine X_putfield (ci := 5) (k := 1) (z := r1) dX5_init_15 rfl (by decide) kf_RX5_14 (Or.inr (Or.inr (Or.inr (Or.inl ⟨_, rfl⟩)))) (Or.inr ⟨rfl, rfl, rfl⟩) rfl (fun hv => hv) hc4.1 ?_
  refine X_aload_n dX5_init_18 rfl ?_
  refine X_iconst dX5_init_19 (by decide) ?_
  refine X_newarr (t := 22) dX5_init_20 k_arr.2.2 rfl (by decide) (by decide) hc4.2.1 hc4.2.2.1 hc4.2.2.2.1 hc4.2.2.2.2.1 ?_
  generalize hShn6 : nw S3 22 4 = S5
  generalize hVhn6 : clr (up V3 x0 1 r1) (S3.2.2 + 1) = V5
  generalize hrhn6 : S3.2.2 + 1 = r5 at hVhn6 ⊢
  generalize hmhn6 : mc3 - 1 = mc5
  generalize hkhn6 : ms3 - (4 : Int).toNat = ms5
  have hn6 := hc4.2.2.2.2.2 S5 V5 r5 mc5 ms5 hrhn6.symm hShn6.symm hVhn6.symm hmhn6.symm hkhn6.symm
  refine X_putfield (ci := 5) (k := 2) (z := r5) dX5_init_22 rfl (by decide) kf_RX5_20 (Or.inr (Or.inr (Or.inr (Or.inr ⟨_, rfl⟩)))) (Or.inr ⟨rfl, rfl, rfl⟩) rfl (fun hv => hv) hn6.1 ?_
  refine X_aload_n dX5_init_25 rfl ?_
  refine X_aload_n dX5_init_26 rfl ?_
  refine X_putfield (ci := 5) (k := 0) (z := x1) dX5_init_27 rfl (by decide) kf_RX5_24 (Or.inr (Or.inr (Or.inr (Or.inl ⟨_, rfl⟩)))) (Or.inr ⟨rfl, rfl, rfl⟩) rfl (fun hv => hv) hn6.1 ?_
  exact X_ret (z := 0) dX5_init_30 rfl (fun _ => trivial) hn6.2
theorem qX5_init {l : Launch} {G : GT} {Q : Int → Sh → Mem → Prop} {d : Nat} {S : Sh} {V : Mem} {mc ms : Nat} {x0 x1 : Int} (h : 0 ≤ x0 → 0 ≤ x1 → XJ l G bX5_init Q d 0 [vr x0, vr x1] [] S V mc ms) : Ct l G bX5_init Q d mc ms [vr x0, vr x1] S V := Ct.of okX5_init.1 trivial (Nat.le_of_ble_eq_true rfl) (fun hv => h (hv _ (List.mem_of_getElem? (i := 0) rfl)) (hv _ (List.mem_of_getElem? (i := 1) rfl)))
set_option maxRecDepth 10000 in
theorem vX5_readBook_0 {l : Launch} {G : GT} {Q : Int → Sh → Mem → Prop} {d : Nat} {S : Sh} {V : Mem} {mc ms : Nat} {x0 : Int} (h : S.1 x0 = 6 ∧ S.1 (V x0 1) = 2 ∧ 1 ≤ mc ∧ 10 ≤ ms ∧ (∀ (S1 : Sh) (V1 : Mem) (r1 : Int) (mc1 ms1 : Nat), r1 = S.2.2 + 1 → S1 = nw S 1 0 → V1 = clr (up (up (up V x0 10 0) x0 11 0) (V x0 1) 2 0) r1 → mc1 = mc - 1 → ms1 = ms - 10 → r1 ≠ 0 ∧ CT l G bX0_init d mc1 ms1 [vr r1] S1 V1 (fun z3 S3 V3 mc3 ms3 => S3.1 x0 = 6 ∧ CT l G bX5_pass d mc3 ms3 [vr x0, vi 1, vi 2] S3 (up (up V3 x0 3 r1) x0 6 (-1)) (fun z5 S5 V5 mc5 ms5 => XJ l G bX5_readBook Q d 43 [vr x0, vi z5, vi 0] [] S5 V5 mc5 ms5)))) : XJ l G bX5_readBook Q d 0 [vr x0, vu, vu] [] S V mc ms := by
  refine X_aload_n dX5_readBook_0 rfl ?_
  refine X_iconst dX5_readBook_1 (by decide) ?_
  refine X_putfield (ci := 5) (k := 10) (z := 0) dX5_readBook_2 rfl (by decide) kf_RX5_28 (Or.inl rfl) (Or.inl rfl) rfl (fun hv => hv) h.1 ?_
  refine X_aload_n dX5_readBook_5 rfl ?_
  refine X_iconst dX5_readBook_6 (by decide) ?_
  refine X_putfield (ci := 5) (k := 11) (z := 0) dX5_readBook_7 rfl (by decide) kf_RX5_32 (Or.inl rfl) (Or.inl rfl) rfl (fun hv => hv) h.1 ?_
  refine X_aload_n dX5_readBook_10 rfl ?_
  refine X_getfield (ci := 5) (k := 1) (v := vr (V x0 1)) dX5_readBook_11 rfl (by decide) kf_RX5_14 (congrArg vr ((up_ne (Or.inr (by decide))).trans (up_ne (Or.inr (by decide))))) h.1 ?_
  refine X_iconst dX5_readBook_14 (by decide) ?_
  refine X_putfield (ci := 1) (k := 2) (z := 0) dX5_readBook_15 rfl (by decide) kf_RX5_35 (Or.inl rfl) (Or.inl rfl) rfl (fun hv => hv) h.2.1 ?_
  refine X_aload_n dX5_readBook_18 rfl ?_
  refine X_newT (t := 1) (ci := 0) rfl dX5_readBook_19 rfl ⟨kc_RX5_38, kn_0⟩ kd_0 h.2.2.1 h.2.2.2.1 ?_
  generalize hShn2 : nw S 1 0 = S1
  generalize hVhn2 : clr (up (up (up V x0 10 0) x0 11 0) (V x0 1) 2 0) (S.2.2 + 1) = V1
  generalize hrhn2 : S.2.2 + 1 = r1 at hVhn2 ⊢
  generalize hmhn2 : mc - 1 = mc1
  generalize hkhn2 : ms - 10 = ms1
  have hn2 := h.2.2.2.2 S1 V1 r1 mc1 ms1 hrhn2.symm hShn2.symm hVhn2.symm hmhn2.symm hkhn2.symm
  refine X_dup dX5_readBook_22 (rv_cat _) ?_
  refine X_invIN (as := []) (st := [vr r1, vr x0]) okX0_init dX5_readBook_23 (host := RX11) (fun U hU => hU.2.2.2.2.2.1.2.2) rfl rfl (Nat.le_of_ble_eq_true rfl) hn2.1 (CT.imp hn2.2 (fun z3 S3 V3 mc3 ms3 hc4 => ?_))
  refine X_putfield (ci := 5) (k := 3) (z := r1) dX5_readBook_26 rfl (by decide) kf_RX5_41 (Or.inr (Or.inr (Or.inr (Or.inl ⟨_, rfl⟩)))) (Or.inl rfl) rfl (fun hv => hv) hc4.1 ?_
  refine X_aload_n dX5_readBook_29 rfl ?_
  refine X_iconst dX5_readBook_30 (by decide) ?_
  refine X_putfield (ci := 5) (k := 6) (z := (-1)) dX5_readBook_31 rfl (by decide) kf_RX5_45 (Or.inl rfl) (Or.inl rfl) rfl (fun hv => hv) hc4.1 ?_
  refine X_aload_n dX5_readBook_34 rfl ?_
  refine X_iconst dX5_readBook_35 (by decide) ?_
  refine X_iconst dX5_readBook_36 (by decide) ?_
  refine X_invV (ci := 5) (as := [vi 1, vi 2]) (st := []) okX5_pass dX5_readBook_37 km_RX5_48 rfl rfl (Nat.le_of_ble_eq_true rfl) rfl rfl hc4.1 (CT.imp hc4.2 (fun z5 S5 V5 mc5 ms5 hc6 => ?_))
  refine X_istore_n dX5_readBook_40 (by decide) rfl ?_
  refine X_iconst dX5_readBook_41 (by decide) ?_
  refine X_istore_n dX5_readBook_42 (by decide) rfl ?_
  exact hc6
set_option maxRecDepth 10000 in
theorem vX5_readBook_43 {l : Launch} {G : GT} {Q : Int → Sh → Mem → Prop} {d : Nat} {S : Sh} {V : Mem} {mc ms : Nat} {x0 x1 x2 : Int} (h : (12 < x2 → (x1 ≠ 0 → S.1 x0 = 6 ∧ S.1 (V x0 1) = 2 ∧ CT l G bX1_copy d mc ms [vr (V x0 1)] S V (fun z3 S3 V3 mc3 ms3 => S3.1 (V x0 3) = 1 ∧ CT l G bX0_settle d mc3 ms3 [vr (V x0 3), vr z3] S3 V3 (fun z5 S5 V5 mc5 ms5 => S5.1 x0 = 6 ∧ S5.1 (V5 x0 3) = 1 ∧ CT l G bX0_linkNames d mc5 ms5 [vr (V5 x0 3), vr (V5 x0 0)] S5 V5 (fun z7 S7 V7 mc7 ms7 => (0 ≤ z7 → S7.1 x0 = 6 ∧ S7.1 (V7 x0 0) = 10 ∧ S7.1 (V7 (V7 x0 0) 1) = 20 ∧ 0 ≤ z7 ∧ z7 < S7.2.1 (V7 (V7 x0 0) 1) ∧ Q 0 S7 (up (up V7 x0 10 4) x0 11 (V7 (V7 (V7 x0 0) 1) z7))) ∧ (¬ (0 ≤ z7) → S7.1 x0 = 6 ∧ Q (V7 x0 3) S7 V7))))) ∧ (¬ (x1 ≠ 0) → Q 0 S V)) ∧ (¬ (12 < x2) → (x1 = 0 → (x1 ≠ 0 → S.1 x0 = 6 ∧ S.1 (V x0 1) = 2 ∧ CT l G bX1_copy d mc ms [vr (V x0 1)] S V (fun z12 S12 V12 mc12 ms12 => S12.1 (V x0 3) = 1 ∧ CT l G bX0_settle d mc12 ms12 [vr (V x0 3), vr z12] S12 V12 (fun z14 S14 V14 mc14 ms14 => S14.1 x0 = 6 ∧ S14.1 (V14 x0 3) = 1 ∧ CT l G bX0_linkNames d mc14 ms14 [vr (V14 x0 3), vr (V14 x0 0)] S14 V14 (fun z16 S16 V16 mc16 ms16 => (0 ≤ z16 → S16.1 x0 = 6 ∧ S16.1 (V16 x0 0) = 10 ∧ S16.1 (V16 (V16 x0 0) 1) = 20 ∧ 0 ≤ z16 ∧ z16 < S16.2.1 (V16 (V16 x0 0) 1) ∧ Q 0 S16 (up (up V16 x0 10 4) x0 11 (V16 (V16 (V16 x0 0) 1) z16))) ∧ (¬ (0 ≤ z16) → S16.1 x0 = 6 ∧ Q (V16 x0 3) S16 V16))))) ∧ (¬ (x1 ≠ 0) → Q 0 S V)) ∧ (¬ (x1 = 0) → (x2 = 0 → S.1 x0 = 6 ∧ CT l G bX5_readHead d mc ms [vr x0] S V (fun z20 S20 V20 mc20 ms20 => (z20 = 0 → -2147483648 ≤ x2 + 1 ∧ x2 + 1 ≤ 2147483647 ∧ XJ l G bX5_readBook Q d 43 [vr x0, vi 0, vi (x2 + 1)] [] S20 V20 mc20 ms20) ∧ (¬ (z20 = 0) → S20.1 x0 = 6 ∧ CT l G bX5_readConstants d mc20 ms20 [vr x0] S20 V20 (fun z23 S23 V23 mc23 ms23 => (z23 = 0 → -2147483648 ≤ x2 + 1 ∧ x2 + 1 ≤ 2147483647 ∧ XJ l G bX5_readBook Q d 43 [vr x0, vi 0, vi (x2 + 1)] [] S23 V23 mc23 ms23) ∧ (¬ (z23 = 0) → S23.1 x0 = 6 ∧ CT l G bX5_readMembers d mc23 ms23 [vr x0] S23 V23 (fun z26 S26 V26 mc26 ms26 => (z26 = 0 → -2147483648 ≤ x2 + 1 ∧ x2 + 1 ≤ 2147483647 ∧ XJ l G bX5_readBook Q d 43 [vr x0, vi 0, vi (x2 + 1)] [] S26 V26 mc26 ms26) ∧ (¬ (z26 = 0) → -2147483648 ≤ x2 + 1 ∧ x2 + 1 ≤ 2147483647 ∧ XJ l G bX5_readBook Q d 43 [vr x0, vi 1, vi (x2 + 1)] [] S26 V26 mc26 ms26))))))) ∧ (¬ (x2 = 0) → S.1 x0 = 6 ∧ ((V x0 7) = 1 → (x1 ≠ 0 → S.1 (V x0 1) = 2 ∧ CT l G bX1_copy d mc ms [vr (V x0 1)] S V (fun z31 S31 V31 mc31 ms31 => S31.1 (V x0 3) = 1 ∧ CT l G bX0_settle d mc31 ms31 [vr (V x0 3), vr z31] S31 V31 (fun z33 S33 V33 mc33 ms33 => S33.1 x0 = 6 ∧ S33.1 (V33 x0 3) = 1 ∧ CT l G bX0_linkNames d mc33 ms33 [vr (V33 x0 3), vr (V33 x0 0)] S33 V33 (fun z35 S35 V35 mc35 ms35 => (0 ≤ z35 → S35.1 x0 = 6 ∧ S35.1 (V35 x0 0) = 10 ∧ S35.1 (V35 (V35 x0 0) 1) = 20 ∧ 0 ≤ z35 ∧ z35 < S35.2.1 (V35 (V35 x0 0) 1) ∧ Q 0 S35 (up (up V35 x0 10 4) x0 11 (V35 (V35 (V35 x0 0) 1) z35))) ∧ (¬ (0 ≤ z35) → S35.1 x0 = 6 ∧ Q (V35 x0 3) S35 V35))))) ∧ (¬ (x1 ≠ 0) → Q 0 S V)) ∧ (¬ ((V x0 7) = 1) → CT l G bX5_readHead d mc ms [vr x0] S V (fun z38 S38 V38 mc38 ms38 => (z38 = 0 → -2147483648 ≤ x2 + 1 ∧ x2 + 1 ≤ 2147483647 ∧ XJ l G bX5_readBook Q d 43 [vr x0, vi 0, vi (x2 + 1)] [] S38 V38 mc38 ms38) ∧ (¬ (z38 = 0) → S38.1 x0 = 6 ∧ CT l G bX5_readConstants d mc38 ms38 [vr x0] S38 V38 (fun z41 S41 V41 mc41 ms41 => (z41 = 0 → -2147483648 ≤ x2 + 1 ∧ x2 + 1 ≤ 2147483647 ∧ XJ l G bX5_readBook Q d 43 [vr x0, vi 0, vi (x2 + 1)] [] S41 V41 mc41 ms41) ∧ (¬ (z41 = 0) → S41.1 x0 = 6 ∧ CT l G bX5_readMembers d mc41 ms41 [vr x0] S41 V41 (fun z44 S44 V44 mc44 ms44 => (z44 = 0 → -2147483648 ≤ x2 + 1 ∧ x2 + 1 ≤ 2147483647 ∧ XJ l G bX5_readBook Q d 43 [vr x0, vi 0, vi (x2 + 1)] [] S44 V44 mc44 ms44) ∧ (¬ (z44 = 0) → -2147483648 ≤ x2 + 1 ∧ x2 + 1 ≤ 2147483647 ∧ XJ l G bX5_readBook Q d 43 [vr x0, vi 1, vi (x2 + 1)] [] S44 V44 mc44 ms44))))))))))) : XJ l G bX5_readBook Q d 43 [vr x0, vi x1, vi x2] [] S V mc ms := by
  refine X_iload_n dX5_readBook_43 rfl ?_
  refine X_bipush dX5_readBook_44 (by decide) (by decide) ?_
  refine X_icmp_gt dX5_readBook_46 (tgt := 98) rfl (fun c1 => ?_) (fun c1 => ?_)
  · refine X_iload_n dX5_readBook_98 rfl ?_
    refine X_if_ne dX5_readBook_99 (tgt := 104) rfl (fun c2 => ?_) (fun c2 => ?_)
    · refine X_aload_n dX5_readBook_104 rfl ?_
      refine X_getfield (ci := 5) (k := 3) (v := vr (V x0 3)) dX5_readBook_105 rfl (by decide) kf_RX5_41 rfl ((h.1 c1).1 c2).1 ?_
      refine X_aload_n dX5_readBook_108 rfl ?_
      refine X_getfield (ci := 5) (k := 1) (v := vr (V x0 1)) dX5_readBook_109 rfl (by decide) kf_RX5_14 rfl ((h.1 c1).1 c2).1 ?_
      refine X_invV (ci := 1) (as := []) (st := [vr (V x0 3)]) okX1_copy dX5_readBook_112 km_RX5_67 rfl rfl (Nat.le_of_ble_eq_true rfl) rfl rfl ((h.1 c1).1 c2).2.1 (CT.imp ((h.1 c1).1 c2).2.2 (fun z3 S3 V3 mc3 ms3 hc4 => ?_))
      refine X_invV (ci := 0) (as := [vr z3]) (st := []) okX0_settle dX5_readBook_115 km_RX5_71 rfl rfl (Nat.le_of_ble_eq_true rfl) rfl rfl hc4.1 (CT.imp hc4.2 (fun z5 S5 V5 mc5 ms5 hc6 => ?_))
      refine X_aload_n dX5_readBook_118 rfl ?_
      refine X_getfield (ci := 5) (k := 3) (v := vr (V5 x0 3)) dX5_readBook_119 rfl (by decide) kf_RX5_41 rfl hc6.1 ?_
      refine X_aload_n dX5_readBook_122 rfl ?_
      refine X_getfield (ci := 5) (k := 0) (v := vr (V5 x0 0)) dX5_readBook_123 rfl (by decide) kf_RX5_24 rfl hc6.1 ?_
      refine X_invV (ci := 0) (as := [vr (V5 x0 0)]) (st := []) okX0_linkNames dX5_readBook_126 km_RX5_75 rfl rfl (Nat.le_of_ble_eq_true rfl) rfl rfl hc6.2.1 (CT.imp hc6.2.2 (fun z7 S7 V7 mc7 ms7 hc8 => ?_))
      refine X_istore_n dX5_readBook_129 (by decide) rfl ?_
      refine X_iload_n dX5_readBook_130 rfl ?_
      refine X_if_ge dX5_readBook_131 (tgt := 139) rfl (fun c9 => ?_) (fun c9 => ?_)
      · refine X_aload_n dX5_readBook_139 rfl ?_
        refine X_iconst dX5_readBook_140 (by decide) ?_
        refine X_putfield (ci := 5) (k := 10) (z := 4) dX5_readBook_141 rfl (by decide) kf_RX5_28 (Or.inl rfl) (Or.inl rfl) rfl (fun hv => hv) (hc8.1 c9).1 ?_
        refine X_aload_n dX5_readBook_144 rfl ?_
        refine X_aload_n dX5_readBook_145 rfl ?_
        refine X_getfield (ci := 5) (k := 0) (v := vr (V7 x0 0)) dX5_readBook_146 rfl (by decide) kf_RX5_24 (congrArg vr (up_ne (Or.inr (by decide)))) (hc8.1 c9).1 ?_
        refine X_getfield (ci := 9) (k := 1) (v := vr (V7 (V7 x0 0) 1)) dX5_readBook_149 rfl (by decide) kf_RX5_79 (congrArg vr (up_ne (Or.inl (tag_ne (hc8.1 c9).2.1 (hc8.1 c9).1 (by decide))))) (hc8.1 c9).2.1 ?_
        refine X_iload_n dX5_readBook_152 rfl ?_
        refine X_iaload dX5_readBook_153 (hc8.1 c9).2.2.1 (hc8.1 c9).2.2.2.1 (hc8.1 c9).2.2.2.2.1 ?_
        refine X_top (v := vi (V7 (V7 (V7 x0 0) 1) z7)) (congrArg vi (up_ne (Or.inl (tag_ne (hc8.1 c9).2.2.1 (hc8.1 c9).1 (by decide))))) ?_
        refine X_putfield (ci := 5) (k := 11) (z := (V7 (V7 (V7 x0 0) 1) z7)) dX5_readBook_154 rfl (by decide) kf_RX5_32 (Or.inl rfl) (Or.inl rfl) rfl (fun hv => hv) (hc8.1 c9).1 ?_
        refine X_aconst_null dX5_readBook_157 ?_
        exact X_ret (z := 0) dX5_readBook_158 rfl (fun hv => vok_h hv) (hc8.1 c9).2.2.2.2.2
      · refine X_aload_n dX5_readBook_134 rfl ?_
        refine X_getfield (ci := 5) (k := 3) (v := vr (V7 x0 3)) dX5_readBook_135 rfl (by decide) kf_RX5_41 rfl (hc8.2 c9).1 ?_
        exact X_ret (z := (V7 x0 3)) dX5_readBook_138 rfl (fun hv => vok_h hv) (hc8.2 c9).2
    · refine X_aconst_null dX5_readBook_102 ?_
      exact X_ret (z := 0) dX5_readBook_103 rfl (fun hv => vok_h hv) ((h.1 c1).2 c2)
  · refine X_iload_n dX5_readBook_49 rfl ?_
    refine X_if_eq dX5_readBook_50 (tgt := 98) rfl (fun c10 => ?_) (fun c10 => ?_)
    · refine X_iload_n dX5_readBook_98 rfl ?_
      refine X_if_ne dX5_readBook_99 (tgt := 104) rfl (fun c11 => ?_) (fun c11 => ?_)
      · refine X_aload_n dX5_readBook_104 rfl ?_
        refine X_getfield (ci := 5) (k := 3) (v := vr (V x0 3)) dX5_readBook_105 rfl (by decide) kf_RX5_41 rfl (((h.2 c1).1 c10).1 c11).1 ?_
        refine X_aload_n dX5_readBook_108 rfl ?_
        refine X_getfield (ci := 5) (k := 1) (v := vr (V x0 1)) dX5_readBook_109 rfl (by decide) kf_RX5_14 rfl (((h.2 c1).1 c10).1 c11).1 ?_
        refine X_invV (ci := 1) (as := []) (st := [vr (V x0 3)]) okX1_copy dX5_readBook_112 km_RX5_67 rfl rfl (Nat.le_of_ble_eq_true rfl) rfl rfl (((h.2 c1).1 c10).1 c11).2.1 (CT.imp (((h.2 c1).1 c10).1 c11).2.2 (fun z12 S12 V12 mc12 ms12 hc13 => ?_))
        refine X_invV (ci := 0) (as := [vr z12]) (st := []) okX0_settle dX5_readBook_115 km_RX5_71 rfl rfl (Nat.le_of_ble_eq_true rfl) rfl rfl hc13.1 (CT.imp hc13.2 (fun z14 S14 V14 mc14 ms14 hc15 => ?_))
        refine X_aload_n dX5_readBook_118 rfl ?_
        refine X_getfield (ci := 5) (k := 3) (v := vr (V14 x0 3)) dX5_readBook_119 rfl (by decide) kf_RX5_41 rfl hc15.1 ?_
        refine X_aload_n dX5_readBook_122 rfl ?_
        refine X_getfield (ci := 5) (k := 0) (v := vr (V14 x0 0)) dX5_readBook_123 rfl (by decide) kf_RX5_24 rfl hc15.1 ?_
        refine X_invV (ci := 0) (as := [vr (V14 x0 0)]) (st := []) okX0_linkNames dX5_readBook_126 km_RX5_75 rfl rfl (Nat.le_of_ble_eq_true rfl) rfl rfl hc15.2.1 (CT.imp hc15.2.2 (fun z16 S16 V16 mc16 ms16 hc17 => ?_))
        refine X_istore_n dX5_readBook_129 (by decide) rfl ?_
        refine X_iload_n dX5_readBook_130 rfl ?_
        refine X_if_ge dX5_readBook_131 (tgt := 139) rfl (fun c18 => ?_) (fun c18 => ?_)
        · refine X_aload_n dX5_readBook_139 rfl ?_
          refine X_iconst dX5_readBook_140 (by decide) ?_
          refine X_putfield (ci := 5) (k := 10) (z := 4) dX5_readBook_141 rfl (by decide) kf_RX5_28 (Or.inl rfl) (Or.inl rfl) rfl (fun hv => hv) (hc17.1 c18).1 ?_
          refine X_aload_n dX5_readBook_144 rfl ?_
          refine X_aload_n dX5_readBook_145 rfl ?_
          refine X_getfield (ci := 5) (k := 0) (v := vr (V16 x0 0)) dX5_readBook_146 rfl (by decide) kf_RX5_24 (congrArg vr (up_ne (Or.inr (by decide)))) (hc17.1 c18).1 ?_
          refine X_getfield (ci := 9) (k := 1) (v := vr (V16 (V16 x0 0) 1)) dX5_readBook_149 rfl (by decide) kf_RX5_79 (congrArg vr (up_ne (Or.inl (tag_ne (hc17.1 c18).2.1 (hc17.1 c18).1 (by decide))))) (hc17.1 c18).2.1 ?_
          refine X_iload_n dX5_readBook_152 rfl ?_
          refine X_iaload dX5_readBook_153 (hc17.1 c18).2.2.1 (hc17.1 c18).2.2.2.1 (hc17.1 c18).2.2.2.2.1 ?_
          refine X_top (v := vi (V16 (V16 (V16 x0 0) 1) z16)) (congrArg vi (up_ne (Or.inl (tag_ne (hc17.1 c18).2.2.1 (hc17.1 c18).1 (by decide))))) ?_
          refine X_putfield (ci := 5) (k := 11) (z := (V16 (V16 (V16 x0 0) 1) z16)) dX5_readBook_154 rfl (by decide) kf_RX5_32 (Or.inl rfl) (Or.inl rfl) rfl (fun hv => hv) (hc17.1 c18).1 ?_
          refine X_aconst_null dX5_readBook_157 ?_
          exact X_ret (z := 0) dX5_readBook_158 rfl (fun hv => vok_h hv) (hc17.1 c18).2.2.2.2.2
        · refine X_aload_n dX5_readBook_134 rfl ?_
          refine X_getfield (ci := 5) (k := 3) (v := vr (V16 x0 3)) dX5_readBook_135 rfl (by decide) kf_RX5_41 rfl (hc17.2 c18).1 ?_
          exact X_ret (z := (V16 x0 3)) dX5_readBook_138 rfl (fun hv => vok_h hv) (hc17.2 c18).2
      · refine X_aconst_null dX5_readBook_102 ?_
        exact X_ret (z := 0) dX5_readBook_103 rfl (fun hv => vok_h hv) (((h.2 c1).1 c10).2 c11)
    · refine X_iload_n dX5_readBook_53 rfl ?_
      refine X_if_eq dX5_readBook_54 (tgt := 65) rfl (fun c19 => ?_) (fun c19 => ?_)
      · refine X_aload_n dX5_readBook_65 rfl ?_
        refine X_invV (ci := 5) (as := []) (st := []) okX5_readHead dX5_readBook_66 km_RX5_57 rfl rfl (Nat.le_of_ble_eq_true rfl) rfl rfl (((h.2 c1).2 c10).1 c19).1 (CT.imp (((h.2 c1).2 c10).1 c19).2 (fun z20 S20 V20 mc20 ms20 hc21 => ?_))
        refine X_if_eq dX5_readBook_69 (tgt := 90) rfl (fun c22 => ?_) (fun c22 => ?_)
        · refine X_iconst dX5_readBook_90 (by decide) ?_
          refine X_istore_n dX5_readBook_91 (by decide) rfl ?_
          refine X_iincN dX5_readBook_92 rfl (by decide) rfl (e := x2 + 1) rfl (hc21.1 c22).1 (hc21.1 c22).2.1 ?_
          refine X_goto dX5_readBook_95 (tgt := 43) rfl ?_
          exact (hc21.1 c22).2.2
        · refine X_aload_n dX5_readBook_72 rfl ?_
          refine X_invV (ci := 5) (as := []) (st := []) okX5_readConstants dX5_readBook_73 km_RX5_61 rfl rfl (Nat.le_of_ble_eq_true rfl) rfl rfl (hc21.2 c22).1 (CT.imp (hc21.2 c22).2 (fun z23 S23 V23 mc23 ms23 hc24 => ?_))
          refine X_if_eq dX5_readBook_76 (tgt := 90) rfl (fun c25 => ?_) (fun c25 => ?_)
          · refine X_iconst dX5_readBook_90 (by decide) ?_
            refine X_istore_n dX5_readBook_91 (by decide) rfl ?_
            refine X_iincN dX5_readBook_92 rfl (by decide) rfl (e := x2 + 1) rfl (hc24.1 c25).1 (hc24.1 c25).2.1 ?_
            refine X_goto dX5_readBook_95 (tgt := 43) rfl ?_
            exact (hc24.1 c25).2.2
          · refine X_aload_n dX5_readBook_79 rfl ?_
            refine X_invV (ci := 5) (as := []) (st := []) okX5_readMembers dX5_readBook_80 km_RX5_64 rfl rfl (Nat.le_of_ble_eq_true rfl) rfl rfl (hc24.2 c25).1 (CT.imp (hc24.2 c25).2 (fun z26 S26 V26 mc26 ms26 hc27 => ?_))
            refine X_if_eq dX5_readBook_83 (tgt := 90) rfl (fun c28 => ?_) (fun c28 => ?_)
            · refine X_iconst dX5_readBook_90 (by decide) ?_
              refine X_istore_n dX5_readBook_91 (by decide) rfl ?_
              refine X_iincN dX5_readBook_92 rfl (by decide) rfl (e := x2 + 1) rfl (hc27.1 c28).1 (hc27.1 c28).2.1 ?_
              refine X_goto dX5_readBook_95 (tgt := 43) rfl ?_
              exact (hc27.1 c28).2.2
            · refine X_iconst dX5_readBook_86 (by decide) ?_
              refine X_goto dX5_readBook_87 (tgt := 91) rfl ?_
              refine X_istore_n dX5_readBook_91 (by decide) rfl ?_
              refine X_iincN dX5_readBook_92 rfl (by decide) rfl (e := x2 + 1) rfl (hc27.2 c28).1 (hc27.2 c28).2.1 ?_
              refine X_goto dX5_readBook_95 (tgt := 43) rfl ?_
              exact (hc27.2 c28).2.2
      · refine X_aload_n dX5_readBook_57 rfl ?_
        refine X_getfield (ci := 5) (k := 7) (v := vi (V x0 7)) dX5_readBook_58 rfl (by decide) kf_RX5_52 rfl (((h.2 c1).2 c10).2 c19).1 ?_
        refine X_iconst dX5_readBook_61 (by decide) ?_
        refine X_icmp_eq dX5_readBook_62 (tgt := 98) rfl (fun c29 => ?_) (fun c29 => ?_)
        · refine X_iload_n dX5_readBook_98 rfl ?_
          refine X_if_ne dX5_readBook_99 (tgt := 104) rfl (fun c30 => ?_) (fun c30 => ?_)
          · refine X_aload_n dX5_readBook_104 rfl ?_
            refine X_getfield (ci := 5) (k := 3) (v := vr (V x0 3)) dX5_readBook_105 rfl (by decide) kf_RX5_41 rfl (((h.2 c1).2 c10).2 c19).1 ?_
            refine X_aload_n dX5_readBook_108 rfl ?_
            refine X_getfield (ci := 5) (k := 1) (v := vr (V x0 1)) dX5_readBook_109 rfl (by decide) kf_RX5_14 rfl (((h.2 c1).2 c10).2 c19).1 ?_
            refine X_invV (ci := 1) (as := []) (st := [vr (V x0 3)]) okX1_copy dX5_readBook_112 km_RX5_67 rfl rfl (Nat.le_of_ble_eq_true rfl) rfl rfl (((((h.2 c1).2 c10).2 c19).2.1 c29).1 c30).1 (CT.imp (((((h.2 c1).2 c10).2 c19).2.1 c29).1 c30).2 (fun z31 S31 V31 mc31 ms31 hc32 => ?_))
            refine X_invV (ci := 0) (as := [vr z31]) (st := []) okX0_settle dX5_readBook_115 km_RX5_71 rfl rfl (Nat.le_of_ble_eq_true rfl) rfl rfl hc32.1 (CT.imp hc32.2 (fun z33 S33 V33 mc33 ms33 hc34 => ?_))
            refine X_aload_n dX5_readBook_118 rfl ?_
            refine X_getfield (ci := 5) (k := 3) (v := vr (V33 x0 3)) dX5_readBook_119 rfl (by decide) kf_RX5_41 rfl hc34.1 ?_
            refine X_aload_n dX5_readBook_122 rfl ?_
            refine X_getfield (ci := 5) (k := 0) (v := vr (V33 x0 0)) dX5_readBook_123 rfl (by decide) kf_RX5_24 rfl hc34.1 ?_
            refine X_invV (ci := 0) (as := [vr (V33 x0 0)]) (st := []) okX0_linkNames dX5_readBook_126 km_RX5_75 rfl rfl (Nat.le_of_ble_eq_true rfl) rfl rfl hc34.2.1 (CT.imp hc34.2.2 (fun z35 S35 V35 mc35 ms35 hc36 => ?_))
            refine X_istore_n dX5_readBook_129 (by decide) rfl ?_
            refine X_iload_n dX5_readBook_130 rfl ?_
            refine X_if_ge dX5_readBook_131 (tgt := 139) rfl (fun c37 => ?_) (fun c37 => ?_)
            · refine X_aload_n dX5_readBook_139 rfl ?_
              refine X_iconst dX5_readBook_140 (by decide) ?_
              refine X_putfield (ci := 5) (k := 10) (z := 4) dX5_readBook_141 rfl (by decide) kf_RX5_28 (Or.inl rfl) (Or.inl rfl) rfl (fun hv => hv) (hc36.1 c37).1 ?_
              refine X_aload_n dX5_readBook_144 rfl ?_
              refine X_aload_n dX5_readBook_145 rfl ?_
              refine X_getfield (ci := 5) (k := 0) (v := vr (V35 x0 0)) dX5_readBook_146 rfl (by decide) kf_RX5_24 (congrArg vr (up_ne (Or.inr (by decide)))) (hc36.1 c37).1 ?_
              refine X_getfield (ci := 9) (k := 1) (v := vr (V35 (V35 x0 0) 1)) dX5_readBook_149 rfl (by decide) kf_RX5_79 (congrArg vr (up_ne (Or.inl (tag_ne (hc36.1 c37).2.1 (hc36.1 c37).1 (by decide))))) (hc36.1 c37).2.1 ?_
              refine X_iload_n dX5_readBook_152 rfl ?_
              refine X_iaload dX5_readBook_153 (hc36.1 c37).2.2.1 (hc36.1 c37).2.2.2.1 (hc36.1 c37).2.2.2.2.1 ?_
              refine X_top (v := vi (V35 (V35 (V35 x0 0) 1) z35)) (congrArg vi (up_ne (Or.inl (tag_ne (hc36.1 c37).2.2.1 (hc36.1 c37).1 (by decide))))) ?_
              refine X_putfield (ci := 5) (k := 11) (z := (V35 (V35 (V35 x0 0) 1) z35)) dX5_readBook_154 rfl (by decide) kf_RX5_32 (Or.inl rfl) (Or.inl rfl) rfl (fun hv => hv) (hc36.1 c37).1 ?_
              refine X_aconst_null dX5_readBook_157 ?_
              exact X_ret (z := 0) dX5_readBook_158 rfl (fun hv => vok_h hv) (hc36.1 c37).2.2.2.2.2
            · refine X_aload_n dX5_readBook_134 rfl ?_
              refine X_getfield (ci := 5) (k := 3) (v := vr (V35 x0 3)) dX5_readBook_135 rfl (by decide) kf_RX5_41 rfl (hc36.2 c37).1 ?_
              exact X_ret (z := (V35 x0 3)) dX5_readBook_138 rfl (fun hv => vok_h hv) (hc36.2 c37).2
          · refine X_aconst_null dX5_readBook_102 ?_
            exact X_ret (z := 0) dX5_readBook_103 rfl (fun hv => vok_h hv) (((((h.2 c1).2 c10).2 c19).2.1 c29).2 c30)
        · refine X_aload_n dX5_readBook_65 rfl ?_
          refine X_invV (ci := 5) (as := []) (st := []) okX5_readHead dX5_readBook_66 km_RX5_57 rfl rfl (Nat.le_of_ble_eq_true rfl) rfl rfl (((h.2 c1).2 c10).2 c19).1 (CT.imp ((((h.2 c1).2 c10).2 c19).2.2 c29) (fun z38 S38 V38 mc38 ms38 hc39 => ?_))
          refine X_if_eq dX5_readBook_69 (tgt := 90) rfl (fun c40 => ?_) (fun c40 => ?_)
          · refine X_iconst dX5_readBook_90 (by decide) ?_
            refine X_istore_n dX5_readBook_91 (by decide) rfl ?_
            refine X_iincN dX5_readBook_92 rfl (by decide) rfl (e := x2 + 1) rfl (hc39.1 c40).1 (hc39.1 c40).2.1 ?_
            refine X_goto dX5_readBook_95 (tgt := 43) rfl ?_
            exact (hc39.1 c40).2.2
          · refine X_aload_n dX5_readBook_72 rfl ?_
            refine X_invV (ci := 5) (as := []) (st := []) okX5_readConstants dX5_readBook_73 km_RX5_61 rfl rfl (Nat.le_of_ble_eq_true rfl) rfl rfl (hc39.2 c40).1 (CT.imp (hc39.2 c40).2 (fun z41 S41 V41 mc41 ms41 hc42 => ?_))
            refine X_if_eq dX5_readBook_76 (tgt := 90) rfl (fun c43 => ?_) (fun c43 => ?_)
            · refine X_iconst dX5_readBook_90 (by decide) ?_
              refine X_istore_n dX5_readBook_91 (by decide) rfl ?_
              refine X_iincN dX5_readBook_92 rfl (by decide) rfl (e := x2 + 1) rfl (hc42.1 c43).1 (hc42.1 c43).2.1 ?_
              refine X_goto dX5_readBook_95 (tgt := 43) rfl ?_
              exact (hc42.1 c43).2.2
            · refine X_aload_n dX5_readBook_79 rfl ?_
              refine X_invV (ci := 5) (as := []) (st := []) okX5_readMembers dX5_readBook_80 km_RX5_64 rfl rfl (Nat.le_of_ble_eq_true rfl) rfl rfl (hc42.2 c43).1 (CT.imp (hc42.2 c43).2 (fun z44 S44 V44 mc44 ms44 hc45 => ?_))
              refine X_if_eq dX5_readBook_83 (tgt := 90) rfl (fun c46 => ?_) (fun c46 => ?_)
              · refine X_iconst dX5_readBook_90 (by decide) ?_
                refine X_istore_n dX5_readBook_91 (by decide) rfl ?_
                refine X_iincN dX5_readBook_92 rfl (by decide) rfl (e := x2 + 1) rfl (hc45.1 c46).1 (hc45.1 c46).2.1 ?_
                refine X_goto dX5_readBook_95 (tgt := 43) rfl ?_
                exact (hc45.1 c46).2.2
              · refine X_iconst dX5_readBook_86 (by decide) ?_
                refine X_goto dX5_readBook_87 (tgt := 91) rfl ?_
                refine X_istore_n dX5_readBook_91 (by decide) rfl ?_
                refine X_iincN dX5_readBook_92 rfl (by decide) rfl (e := x2 + 1) rfl (hc45.2 c46).1 (hc45.2 c46).2.1 ?_
                refine X_goto dX5_readBook_95 (tgt := 43) rfl ?_
                exact (hc45.2 c46).2.2
theorem qX5_readBook {l : Launch} {G : GT} {Q : Int → Sh → Mem → Prop} {d : Nat} {S : Sh} {V : Mem} {mc ms : Nat} {x0 : Int} (h : 0 ≤ x0 → XJ l G bX5_readBook Q d 0 [vr x0, vu, vu] [] S V mc ms) : Ct l G bX5_readBook Q d mc ms [vr x0] S V := Ct.of okX5_readBook.1 trivial (Nat.le_of_ble_eq_true rfl) (fun hv => h (hv _ (List.mem_of_getElem? (i := 0) rfl)))
set_option maxRecDepth 10000 in
theorem vX5_readHead_0 {l : Launch} {G : GT} {Q : Int → Sh → Mem → Prop} {d : Nat} {S : Sh} {V : Mem} {mc ms : Nat} {x0 : Int} (h : S.1 x0 = 6 ∧ ((V x0 7) ≠ 4 → CT l G bX5_pass d mc ms [vr x0, vi 0, vi 2] S V (fun z2 S2 V2 mc2 ms2 => (z2 ≠ 0 → S2.1 x0 = 6 ∧ S2.1 (V2 x0 3) = 1 ∧ CT l G bX0_findEnum d mc2 ms2 [vr (V2 x0 3), vl (V2 x0 8)] S2 V2 (fun z5 S5 V5 mc5 ms5 => (z5 < 0 → XJ l G bX5_readHead Q d 73 [vr x0, vi 0] [vi 0, vr x0] S5 V5 mc5 ms5) ∧ (¬ (z5 < 0) → XJ l G bX5_readHead Q d 73 [vr x0, vi 0] [vi 1, vr x0] S5 V5 mc5 ms5))) ∧ (¬ (z2 ≠ 0) → Q 0 S2 V2))) ∧ (¬ ((V x0 7) ≠ 4) → S.1 (V x0 3) = 1 ∧ (12 ≤ (V (V x0 3) 1) → CT l G bX5_pass d mc ms [vr x0, vi 0, vi 5] S V (fun z9 S9 V9 mc9 ms9 => (z9 ≠ 0 → S9.1 x0 = 6 ∧ S9.1 (V9 x0 3) = 1 ∧ CT l G bX0_findEnum d mc9 ms9 [vr (V9 x0 3), vl (V9 x0 8)] S9 V9 (fun z12 S12 V12 mc12 ms12 => (z12 < 0 → XJ l G bX5_readHead Q d 73 [vr x0, vi 1] [vi 0, vr x0] S12 V12 mc12 ms12) ∧ (¬ (z12 < 0) → XJ l G bX5_readHead Q d 73 [vr x0, vi 1] [vi 1, vr x0] S12 V12 mc12 ms12))) ∧ (¬ (z9 ≠ 0) → Q 0 S9 V9))) ∧ (¬ (12 ≤ (V (V x0 3) 1)) → CT l G bX5_pass d mc ms [vr x0, vi 1, vi 5] S V (fun z15 S15 V15 mc15 ms15 => (z15 ≠ 0 → S15.1 x0 = 6 ∧ S15.1 (V15 x0 3) = 1 ∧ CT l G bX0_findEnum d mc15 ms15 [vr (V15 x0 3), vl (V15 x0 8)] S15 V15 (fun z18 S18 V18 mc18 ms18 => (z18 < 0 → XJ l G bX5_readHead Q d 73 [vr x0, vi 1] [vi 0, vr x0] S18 V18 mc18 ms18) ∧ (¬ (z18 < 0) → XJ l G bX5_readHead Q d 73 [vr x0, vi 1] [vi 1, vr x0] S18 V18 mc18 ms18))) ∧ (¬ (z15 ≠ 0) → Q 0 S15 V15))))) : XJ l G bX5_readHead Q d 0 [vr x0, vu] [] S V mc ms := by
  refine X_aload_n dX5_readHead_0 rfl ?_
  refine X_getfield (ci := 5) (k := 7) (v := vi (V x0 7)) dX5_readHead_1 rfl (by decide) kf_RX5_52 rfl h.1 ?_
  refine X_iconst dX5_readHead_4 (by decide) ?_
  refine X_icmp_ne dX5_readHead_5 (tgt := 12) rfl (fun c1 => ?_) (fun c1 => ?_)
  · refine X_iconst dX5_readHead_12 (by decide) ?_
    refine X_istore_n dX5_readHead_13 (by decide) rfl ?_
    refine X_aload_n dX5_readHead_14 rfl ?_
    refine X_iload_n dX5_readHead_15 rfl ?_
    refine X_if_eq dX5_readHead_16 (tgt := 35) rfl (fun _ => ?_) (fun c => absurd (by decide) c)
    refine X_iconst dX5_readHead_35 (by decide) ?_
    refine X_iload_n dX5_readHead_36 rfl ?_
    refine X_if_eq dX5_readHead_37 (tgt := 44) rfl (fun _ => ?_) (fun c => absurd (by decide) c)
    refine X_iconst dX5_readHead_44 (by decide) ?_
    refine X_invV (ci := 5) (as := [vi 0, vi 2]) (st := []) okX5_pass dX5_readHead_45 km_RX5_48 rfl rfl (Nat.le_of_ble_eq_true rfl) rfl rfl h.1 (CT.imp (h.2.1 c1) (fun z2 S2 V2 mc2 ms2 hc3 => ?_))
    refine X_if_ne dX5_readHead_48 (tgt := 53) rfl (fun c4 => ?_) (fun c4 => ?_)
    · refine X_aload_n dX5_readHead_53 rfl ?_
      refine X_aload_n dX5_readHead_54 rfl ?_
      refine X_getfield (ci := 5) (k := 3) (v := vr (V2 x0 3)) dX5_readHead_55 rfl (by decide) kf_RX5_41 rfl (hc3.1 c4).1 ?_
      refine X_aload_n dX5_readHead_58 rfl ?_
      refine X_getfield (ci := 5) (k := 8) (v := vl (V2 x0 8)) dX5_readHead_59 rfl (by decide) kf_RX5_86 rfl (hc3.1 c4).1 ?_
      refine X_invV (ci := 0) (as := [vl (V2 x0 8)]) (st := [vr x0]) okX0_findEnum dX5_readHead_62 km_RX5_90 rfl rfl (Nat.le_of_ble_eq_true rfl) rfl rfl (hc3.1 c4).2.1 (CT.imp (hc3.1 c4).2.2 (fun z5 S5 V5 mc5 ms5 hc6 => ?_))
      refine X_if_lt dX5_readHead_65 (tgt := 72) rfl (fun c7 => ?_) (fun c7 => ?_)
      · refine X_iconst dX5_readHead_72 (by decide) ?_
        exact (hc6.1 c7)
      · refine X_iconst dX5_readHead_68 (by decide) ?_
        refine X_goto dX5_readHead_69 (tgt := 73) rfl ?_
        exact (hc6.2 c7)
    · refine X_iconst dX5_readHead_51 (by decide) ?_
      exact X_ret (z := 0) dX5_readHead_52 rfl (fun _ => Or.inl rfl) (hc3.2 c4)
  · refine X_iconst dX5_readHead_8 (by decide) ?_
    refine X_goto dX5_readHead_9 (tgt := 13) rfl ?_
    refine X_istore_n dX5_readHead_13 (by decide) rfl ?_
    refine X_aload_n dX5_readHead_14 rfl ?_
    refine X_iload_n dX5_readHead_15 rfl ?_
    refine X_if_eq dX5_readHead_16 (tgt := 35) rfl (fun c => absurd c (by decide)) (fun _ => ?_)
    refine X_aload_n dX5_readHead_19 rfl ?_
    refine X_getfield (ci := 5) (k := 3) (v := vr (V x0 3)) dX5_readHead_20 rfl (by decide) kf_RX5_41 rfl h.1 ?_
    refine X_getfield (ci := 0) (k := 1) (v := vi (V (V x0 3) 1)) dX5_readHead_23 rfl (by decide) kf_RX5_83 rfl (h.2.2 c1).1 ?_
    refine X_bipush dX5_readHead_26 (by decide) (by decide) ?_
    refine X_icmp_ge dX5_readHead_28 (tgt := 35) rfl (fun c8 => ?_) (fun c8 => ?_)
    · refine X_iconst dX5_readHead_35 (by decide) ?_
      refine X_iload_n dX5_readHead_36 rfl ?_
      refine X_if_eq dX5_readHead_37 (tgt := 44) rfl (fun c => absurd c (by decide)) (fun _ => ?_)
      refine X_iconst dX5_readHead_40 (by decide) ?_
      refine X_goto dX5_readHead_41 (tgt := 45) rfl ?_
      refine X_invV (ci := 5) (as := [vi 0, vi 5]) (st := []) okX5_pass dX5_readHead_45 km_RX5_48 rfl rfl (Nat.le_of_ble_eq_true rfl) rfl rfl h.1 (CT.imp ((h.2.2 c1).2.1 c8) (fun z9 S9 V9 mc9 ms9 hc10 => ?_))
      refine X_if_ne dX5_readHead_48 (tgt := 53) rfl (fun c11 => ?_) (fun c11 => ?_)
      · refine X_aload_n dX5_readHead_53 rfl ?_
        refine X_aload_n dX5_readHead_54 rfl ?_
        refine X_getfield (ci := 5) (k := 3) (v := vr (V9 x0 3)) dX5_readHead_55 rfl (by decide) kf_RX5_41 rfl (hc10.1 c11).1 ?_
        refine X_aload_n dX5_readHead_58 rfl ?_
        refine X_getfield (ci := 5) (k := 8) (v := vl (V9 x0 8)) dX5_readHead_59 rfl (by decide) kf_RX5_86 rfl (hc10.1 c11).1 ?_
        refine X_invV (ci := 0) (as := [vl (V9 x0 8)]) (st := [vr x0]) okX0_findEnum dX5_readHead_62 km_RX5_90 rfl rfl (Nat.le_of_ble_eq_true rfl) rfl rfl (hc10.1 c11).2.1 (CT.imp (hc10.1 c11).2.2 (fun z12 S12 V12 mc12 ms12 hc13 => ?_))
        refine X_if_lt dX5_readHead_65 (tgt := 72) rfl (fun c14 => ?_) (fun c14 => ?_)
        · refine X_iconst dX5_readHead_72 (by decide) ?_
          exact (hc13.1 c14)
        · refine X_iconst dX5_readHead_68 (by decide) ?_
          refine X_goto dX5_readHead_69 (tgt := 73) rfl ?_
          exact (hc13.2 c14)
      · refine X_iconst dX5_readHead_51 (by decide) ?_
        exact X_ret (z := 0) dX5_readHead_52 rfl (fun _ => Or.inl rfl) (hc10.2 c11)
    · refine X_iconst dX5_readHead_31 (by decide) ?_
      refine X_goto dX5_readHead_32 (tgt := 36) rfl ?_
      refine X_iload_n dX5_readHead_36 rfl ?_
      refine X_if_eq dX5_readHead_37 (tgt := 44) rfl (fun c => absurd c (by decide)) (fun _ => ?_)
      refine X_iconst dX5_readHead_40 (by decide) ?_
      refine X_goto dX5_readHead_41 (tgt := 45) rfl ?_
      refine X_invV (ci := 5) (as := [vi 1, vi 5]) (st := []) okX5_pass dX5_readHead_45 km_RX5_48 rfl rfl (Nat.le_of_ble_eq_true rfl) rfl rfl h.1 (CT.imp ((h.2.2 c1).2.2 c8) (fun z15 S15 V15 mc15 ms15 hc16 => ?_))
      refine X_if_ne dX5_readHead_48 (tgt := 53) rfl (fun c17 => ?_) (fun c17 => ?_)
      · refine X_aload_n dX5_readHead_53 rfl ?_
        refine X_aload_n dX5_readHead_54 rfl ?_
        refine X_getfield (ci := 5) (k := 3) (v := vr (V15 x0 3)) dX5_readHead_55 rfl (by decide) kf_RX5_41 rfl (hc16.1 c17).1 ?_
        refine X_aload_n dX5_readHead_58 rfl ?_
        refine X_getfield (ci := 5) (k := 8) (v := vl (V15 x0 8)) dX5_readHead_59 rfl (by decide) kf_RX5_86 rfl (hc16.1 c17).1 ?_
        refine X_invV (ci := 0) (as := [vl (V15 x0 8)]) (st := [vr x0]) okX0_findEnum dX5_readHead_62 km_RX5_90 rfl rfl (Nat.le_of_ble_eq_true rfl) rfl rfl (hc16.1 c17).2.1 (CT.imp (hc16.1 c17).2.2 (fun z18 S18 V18 mc18 ms18 hc19 => ?_))
        refine X_if_lt dX5_readHead_65 (tgt := 72) rfl (fun c20 => ?_) (fun c20 => ?_)
        · refine X_iconst dX5_readHead_72 (by decide) ?_
          exact (hc19.1 c20)
        · refine X_iconst dX5_readHead_68 (by decide) ?_
          refine X_goto dX5_readHead_69 (tgt := 73) rfl ?_
          exact (hc19.2 c20)
      · refine X_iconst dX5_readHead_51 (by decide) ?_
        exact X_ret (z := 0) dX5_readHead_52 rfl (fun _ => Or.inl rfl) (hc16.2 c17)
set_option maxRecDepth 10000 in
theorem vX5_readHead_73 {l : Launch} {G : GT} {Q : Int → Sh → Mem → Prop} {d : Nat} {S : Sh} {V : Mem} {mc ms : Nat} {x0 x1 y0 y1 : Int} (h : S.1 y0 = 6 ∧ CT l G bX5_acceptNew d mc ms [vr y0, vi y1, vi 1] S V (fun z1 S1 V1 mc1 ms1 => (z1 ≠ 0 → 1 ≤ mc1 ∧ 17 ≤ ms1 ∧ (∀ (S4 : Sh) (V4 : Mem) (r4 : Int) (mc4 ms4 : Nat), r4 = S1.2.2 + 1 → S4 = nw S1 4 0 → V4 = clr V1 r4 → mc4 = mc1 - 1 → ms4 = ms1 - 17 → S4.1 x0 = 6 ∧ r4 ≠ 0 ∧ CT l G bX3_init d mc4 ms4 [vr r4, vl (V4 x0 9)] S4 V4 (fun z6 S6 V6 mc6 ms6 => S6.1 x0 = 6 ∧ S6.1 (V6 x0 1) = 2 ∧ S6.1 r4 = 4 ∧ S6.1 (V6 x0 3) = 1 ∧ CT l G bX0_keepEnum d mc6 ms6 [vr (V6 x0 3), vr r4] S6 (up (up V6 x0 4 r4) r4 1 (V6 (V6 x0 1) 2)) (fun z8 S8 V8 mc8 ms8 => S8.1 x0 = 6 ∧ CT l G bX5_accept d mc8 ms8 [vr x0, vi 123] S8 V8 (fun z10 S10 V10 mc10 ms10 => (z10 = 0 ∨ z10 = 1) ∧ Q z10 S10 V10))))) ∧ (¬ (z1 ≠ 0) → Q 0 S1 V1))) : XJ l G bX5_readHead Q d 73 [vr x0, vi x1] [vi y1, vr y0] S V mc ms := by
  refine X_iconst dX5_readHead_73 (by decide) ?_
  refine X_invV (ci := 5) (as := [vi y1, vi 1]) (st := []) okX5_acceptNew dX5_readHead_74 km_RX5_94 rfl rfl (Nat.le_of_ble_eq_true rfl) rfl rfl h.1 (CT.imp h.2 (fun z1 S1 V1 mc1 ms1 hc2 => ?_))
  refine X_if_ne dX5_readHead_77 (tgt := 82) rfl (fun c3 => ?_) (fun c3 => ?_)
  · refine X_aload_n dX5_readHead_82 rfl ?_
    refine X_newT (t := 4) (ci := 3) rfl dX5_readHead_83 rfl ⟨kc_RX5_98, kn_3⟩ kd_3 (hc2.1 c3).1 (hc2.1 c3).2.1 ?_
    generalize hShn5 : nw S1 4 0 = S4
    generalize hVhn5 : clr V1 (S1.2.2 + 1) = V4
    generalize hrhn5 : S1.2.2 + 1 = r4 at hVhn5 ⊢
    generalize hmhn5 : mc1 - 1 = mc4
    generalize hkhn5 : ms1 - 17 = ms4
    have hn5 := (hc2.1 c3).2.2 S4 V4 r4 mc4 ms4 hrhn5.symm hShn5.symm hVhn5.symm hmhn5.symm hkhn5.symm
    refine X_dup dX5_readHead_86 (rv_cat _) ?_
    refine X_aload_n dX5_readHead_87 rfl ?_
    refine X_getfield (ci := 5) (k := 9) (v := vl (V4 x0 9)) dX5_readHead_88 rfl (by decide) kf_RX5_100 rfl hn5.1 ?_
    refine X_invI (as := [vl (V4 x0 9)]) (st := [vr r4, vr x0]) okX3_init dX5_readHead_91 km_RX5_103 rfl rfl (Nat.le_of_ble_eq_true rfl) hn5.2.1 (CT.imp hn5.2.2 (fun z6 S6 V6 mc6 ms6 hc7 => ?_))
    refine X_putfield (ci := 5) (k := 4) (z := r4) dX5_readHead_94 rfl (by decide) kf_RX5_106 (Or.inr (Or.inr (Or.inr (Or.inl ⟨_, rfl⟩)))) (Or.inl rfl) rfl (fun hv => hv) hc7.1 ?_
    refine X_aload_n dX5_readHead_97 rfl ?_
    refine X_getfield (ci := 5) (k := 4) (v := vr r4) dX5_readHead_98 rfl (by decide) kf_RX5_106 (congrArg vr up_eq) hc7.1 ?_
    refine X_aload_n dX5_readHead_101 rfl ?_
    refine X_getfield (ci := 5) (k := 1) (v := vr (V6 x0 1)) dX5_readHead_102 rfl (by decide) kf_RX5_14 (congrArg vr (up_ne (Or.inr (by decide)))) hc7.1 ?_
    refine X_getfield (ci := 1) (k := 2) (v := vi (V6 (V6 x0 1) 2)) dX5_readHead_105 rfl (by decide) kf_RX5_35 (congrArg vi (up_ne (Or.inl (tag_ne hc7.2.1 hc7.1 (by decide))))) hc7.2.1 ?_
    refine X_putfield (ci := 3) (k := 1) (z := (V6 (V6 x0 1) 2)) dX5_readHead_108 rfl (by decide) kf_RX5_110 (Or.inl rfl) (Or.inl rfl) rfl (fun hv => hv) hc7.2.2.1 ?_
    refine X_aload_n dX5_readHead_111 rfl ?_
    refine X_getfield (ci := 5) (k := 3) (v := vr (V6 x0 3)) dX5_readHead_112 rfl (by decide) kf_RX5_41 (congrArg vr ((up_ne (Or.inl (tag_ne hc7.1 hc7.2.2.1 (by decide)))).trans (up_ne (Or.inr (by decide))))) hc7.1 ?_
    refine X_aload_n dX5_readHead_115 rfl ?_
    refine X_getfield (ci := 5) (k := 4) (v := vr r4) dX5_readHead_116 rfl (by decide) kf_RX5_106 (congrArg vr ((up_ne (Or.inl (tag_ne hc7.1 hc7.2.2.1 (by decide)))).trans up_eq)) hc7.1 ?_
    refine X_invV (ci := 0) (as := [vr r4]) (st := []) okX0_keepEnum dX5_readHead_119 km_RX5_113 rfl rfl (Nat.le_of_ble_eq_true rfl) rfl rfl hc7.2.2.2.1 (CT.imp hc7.2.2.2.2 (fun z8 S8 V8 mc8 ms8 hc9 => ?_))
    refine X_aload_n dX5_readHead_122 rfl ?_
    refine X_bipush dX5_readHead_123 (by decide) (by decide) ?_
    refine X_invV (ci := 5) (as := [vi 123]) (st := []) okX5_accept dX5_readHead_125 km_RX5_117 rfl rfl (Nat.le_of_ble_eq_true rfl) rfl rfl hc9.1 (CT.imp hc9.2 (fun z10 S10 V10 mc10 ms10 hc11 => ?_))
    exact X_ret (z := z10) dX5_readHead_128 rfl (fun _ => hc11.1) hc11.2
  · refine X_iconst dX5_readHead_80 (by decide) ?_
    exact X_ret (z := 0) dX5_readHead_81 rfl (fun _ => Or.inl rfl) (hc2.2 c3)
theorem qX5_readHead {l : Launch} {G : GT} {Q : Int → Sh → Mem → Prop} {d : Nat} {S : Sh} {V : Mem} {mc ms : Nat} {x0 : Int} (h : 0 ≤ x0 → XJ l G bX5_readHead Q d 0 [vr x0, vu] [] S V mc ms) : Ct l G bX5_readHead Q d mc ms [vr x0] S V := Ct.of okX5_readHead.1 trivial (Nat.le_of_ble_eq_true rfl) (fun hv => h (hv _ (List.mem_of_getElem? (i := 0) rfl)))
set_option maxRecDepth 10000 in
theorem vX5_readConstants_0 {l : Launch} {G : GT} {Q : Int → Sh → Mem → Prop} {d : Nat} {S : Sh} {V : Mem} {mc ms : Nat} {x0 : Int} (h : XJ l G bX5_readConstants Q d 4 [vr x0, vi 1, vi 0] [] S V mc ms) : XJ l G bX5_readConstants Q d 0 [vr x0, vu, vu] [] S V mc ms := by
  refine X_iconst dX5_readConstants_0 (by decide) ?_
  refine X_istore_n dX5_readConstants_1 (by decide) rfl ?_
  refine X_iconst dX5_readConstants_2 (by decide) ?_
  refine X_istore_n dX5_readConstants_3 (by decide) rfl ?_
  exact h
set_option maxRecDepth 10000 in
theorem vX5_readConstants_4 {l : Launch} {G : GT} {Q : Int → Sh → Mem → Prop} {d : Nat} {S : Sh} {V : Mem} {mc ms : Nat} {x0 x1 x2 : Int} (h : (24 < x2 → S.1 x0 = 6 ∧ CT l G bX5_accept d mc ms [vr x0, vi 59] S V (fun z2 S2 V2 mc2 ms2 => (z2 = 0 ∨ z2 = 1) ∧ Q z2 S2 V2)) ∧ (¬ (24 < x2) → (x1 = 0 → S.1 x0 = 6 ∧ CT l G bX5_accept d mc ms [vr x0, vi 59] S V (fun z5 S5 V5 mc5 ms5 => (z5 = 0 ∨ z5 = 1) ∧ Q z5 S5 V5)) ∧ (¬ (x1 = 0) → S.1 x0 = 6 ∧ CT l G bX5_readConstant d mc ms [vr x0] S V (fun z7 S7 V7 mc7 ms7 => (z7 ≠ 0 → S7.1 x0 = 6 ∧ ((V7 x0 7) ≠ 44 → -2147483648 ≤ x2 + 1 ∧ x2 + 1 ≤ 2147483647 ∧ XJ l G bX5_readConstants Q d 4 [vr x0, vi 0, vi (x2 + 1)] [] S7 V7 mc7 ms7) ∧ (¬ ((V7 x0 7) ≠ 44) → CT l G bX5_accept d mc7 ms7 [vr x0, vi 44] S7 V7 (fun z11 S11 V11 mc11 ms11 => (z11 = 0 → -2147483648 ≤ x2 + 1 ∧ x2 + 1 ≤ 2147483647 ∧ XJ l G bX5_readConstants Q d 4 [vr x0, vi 0, vi (x2 + 1)] [] S11 V11 mc11 ms11) ∧ (¬ (z11 = 0) → -2147483648 ≤ x2 + 1 ∧ x2 + 1 ≤ 2147483647 ∧ XJ l G bX5_readConstants Q d 4 [vr x0, vi 1, vi (x2 + 1)] [] S11 V11 mc11 ms11)))) ∧ (¬ (z7 ≠ 0) → Q 0 S7 V7))))) : XJ l G bX5_readConstants Q d 4 [vr x0, vi x1, vi x2] [] S V mc ms := by
  refine X_iload_n dX5_readConstants_4 rfl ?_
  refine X_bipush dX5_readConstants_5 (by decide) (by decide) ?_
  refine X_icmp_gt dX5_readConstants_7 (tgt := 53) rfl (fun c1 => ?_) (fun c1 => ?_)
  · refine X_aload_n dX5_readConstants_53 rfl ?_
    refine X_bipush dX5_readConstants_54 (by decide) (by decide) ?_
    refine X_invV (ci := 5) (as := [vi 59]) (st := []) okX5_accept dX5_readConstants_56 km_RX5_117 rfl rfl (Nat.le_of_ble_eq_true rfl) rfl rfl (h.1 c1).1 (CT.imp (h.1 c1).2 (fun z2 S2 V2 mc2 ms2 hc3 => ?_))
    exact X_ret (z := z2) dX5_readConstants_59 rfl (fun _ => hc3.1) hc3.2
  · refine X_iload_n dX5_readConstants_10 rfl ?_
    refine X_if_eq dX5_readConstants_11 (tgt := 53) rfl (fun c4 => ?_) (fun c4 => ?_)
    · refine X_aload_n dX5_readConstants_53 rfl ?_
      refine X_bipush dX5_readConstants_54 (by decide) (by decide) ?_
      refine X_invV (ci := 5) (as := [vi 59]) (st := []) okX5_accept dX5_readConstants_56 km_RX5_117 rfl rfl (Nat.le_of_ble_eq_true rfl) rfl rfl ((h.2 c1).1 c4).1 (CT.imp ((h.2 c1).1 c4).2 (fun z5 S5 V5 mc5 ms5 hc6 => ?_))
      exact X_ret (z := z5) dX5_readConstants_59 rfl (fun _ => hc6.1) hc6.2
    · refine X_aload_n dX5_readConstants_14 rfl ?_
      refine X_invV (ci := 5) (as := []) (st := []) okX5_readConstant dX5_readConstants_15 km_RX5_121 rfl rfl (Nat.le_of_ble_eq_true rfl) rfl rfl ((h.2 c1).2 c4).1 (CT.imp ((h.2 c1).2 c4).2 (fun z7 S7 V7 mc7 ms7 hc8 => ?_))
      refine X_if_ne dX5_readConstants_18 (tgt := 23) rfl (fun c9 => ?_) (fun c9 => ?_)
      · refine X_aload_n dX5_readConstants_23 rfl ?_
        refine X_getfield (ci := 5) (k := 7) (v := vi (V7 x0 7)) dX5_readConstants_24 rfl (by decide) kf_RX5_52 rfl (hc8.1 c9).1 ?_
        refine X_bipush dX5_readConstants_27 (by decide) (by decide) ?_
        refine X_icmp_ne dX5_readConstants_29 (tgt := 45) rfl (fun c10 => ?_) (fun c10 => ?_)
        · refine X_iconst dX5_readConstants_45 (by decide) ?_
          refine X_istore_n dX5_readConstants_46 (by decide) rfl ?_
          refine X_iincN dX5_readConstants_47 rfl (by decide) rfl (e := x2 + 1) rfl ((hc8.1 c9).2.1 c10).1 ((hc8.1 c9).2.1 c10).2.1 ?_
          refine X_goto dX5_readConstants_50 (tgt := 4) rfl ?_
          exact ((hc8.1 c9).2.1 c10).2.2
        · refine X_aload_n dX5_readConstants_32 rfl ?_
          refine X_bipush dX5_readConstants_33 (by decide) (by decide) ?_
          refine X_invV (ci := 5) (as := [vi 44]) (st := []) okX5_accept dX5_readConstants_35 km_RX5_117 rfl rfl (Nat.le_of_ble_eq_true rfl) rfl rfl (hc8.1 c9).1 (CT.imp ((hc8.1 c9).2.2 c10) (fun z11 S11 V11 mc11 ms11 hc12 => ?_))
          refine X_if_eq dX5_readConstants_38 (tgt := 45) rfl (fun c13 => ?_) (fun c13 => ?_)
          · refine X_iconst dX5_readConstants_45 (by decide) ?_
            refine X_istore_n dX5_readConstants_46 (by decide) rfl ?_
            refine X_iincN dX5_readConstants_47 rfl (by decide) rfl (e := x2 + 1) rfl (hc12.1 c13).1 (hc12.1 c13).2.1 ?_
            refine X_goto dX5_readConstants_50 (tgt := 4) rfl ?_
            exact (hc12.1 c13).2.2
          · refine X_iconst dX5_readConstants_41 (by decide) ?_
            refine X_goto dX5_readConstants_42 (tgt := 46) rfl ?_
            refine X_istore_n dX5_readConstants_46 (by decide) rfl ?_
            refine X_iincN dX5_readConstants_47 rfl (by decide) rfl (e := x2 + 1) rfl (hc12.2 c13).1 (hc12.2 c13).2.1 ?_
            refine X_goto dX5_readConstants_50 (tgt := 4) rfl ?_
            exact (hc12.2 c13).2.2
      · refine X_iconst dX5_readConstants_21 (by decide) ?_
        exact X_ret (z := 0) dX5_readConstants_22 rfl (fun _ => Or.inl rfl) (hc8.2 c9)
theorem qX5_readConstants {l : Launch} {G : GT} {Q : Int → Sh → Mem → Prop} {d : Nat} {S : Sh} {V : Mem} {mc ms : Nat} {x0 : Int} (h : 0 ≤ x0 → XJ l G bX5_readConstants Q d 0 [vr x0, vu, vu] [] S V mc ms) : Ct l G bX5_readConstants Q d mc ms [vr x0] S V := Ct.of okX5_readConstants.1 trivial (Nat.le_of_ble_eq_true rfl) (fun hv => h (hv _ (List.mem_of_getElem? (i := 0) rfl)))
set_option maxRecDepth 10000 in
theorem vX5_readConstant_0 {l : Launch} {G : GT} {Q : Int → Sh → Mem → Prop} {d : Nat} {S : Sh} {V : Mem} {mc ms : Nat} {x0 : Int} (h : S.1 x0 = 6 ∧ S.1 (V x0 4) = 4 ∧ CT l G bX3_knows d mc ms [vr (V x0 4), vl (V x0 8)] S V (fun z1 S1 V1 mc1 ms1 => S1.1 x0 = 6 ∧ S1.1 (V1 x0 4) = 4 ∧ (24 ≤ (V1 (V1 x0 4) 4) → CT l G bX5_acceptNew d mc1 ms1 [vr x0, vi z1, vi 0] S1 V1 (fun z4 S4 V4 mc4 ms4 => (z4 ≠ 0 → 1 ≤ mc4 ∧ 4 ≤ ms4 ∧ (∀ (S7 : Sh) (V7 : Mem) (r7 : Int) (mc7 ms7 : Nat), r7 = S4.2.2 + 1 → S7 = nw S4 3 0 → V7 = clr V4 r7 → mc7 = mc4 - 1 → ms7 = ms4 - 4 → S7.1 x0 = 6 ∧ r7 ≠ 0 ∧ CT l G bX2_init d mc7 ms7 [vr r7, vl (V7 x0 9)] S7 V7 (fun z9 S9 V9 mc9 ms9 => S9.1 x0 = 6 ∧ S9.1 (V9 x0 4) = 4 ∧ S9.1 (V9 (V9 x0 4) 3) = 32 ∧ S9.1 r7 = 3 ∧ 0 ≤ (V9 (V9 x0 4) 4) ∧ (V9 (V9 x0 4) 4) < S9.2.1 (V9 (V9 x0 4) 3) ∧ -2147483648 ≤ (V9 (V9 x0 4) 4) + 1 ∧ (V9 (V9 x0 4) 4) + 1 ≤ 2147483647 ∧ ((V9 x0 7) ≠ 40 → ((V9 x0 7) = 123 → CT l G bX5_accept d mc9 ms9 [vr x0, vi 123] S9 (up (up V9 (V9 (V9 x0 4) 3) (V9 (V9 x0 4) 4) r7) (V9 x0 4) 4 ((V9 (V9 x0 4) 4) + 1)) (fun z13 S13 V13 mc13 ms13 => XJ l G bX5_readConstant Q d 151 [vr x0, vr r7, vi 1, vi 0] [] S13 V13 mc13 ms13)) ∧ (¬ ((V9 x0 7) = 123) → Q 1 S9 (up (up V9 (V9 (V9 x0 4) 3) (V9 (V9 x0 4) 4) r7) (V9 x0 4) 4 ((V9 (V9 x0 4) 4) + 1)))) ∧ (¬ ((V9 x0 7) ≠ 40) → CT l G bX5_accept d mc9 ms9 [vr x0, vi 40] S9 (up (up V9 (V9 (V9 x0 4) 3) (V9 (V9 x0 4) 4) r7) (V9 x0 4) 4 ((V9 (V9 x0 4) 4) + 1)) (fun z15 S15 V15 mc15 ms15 => S15.1 x0 = 6 ∧ S15.1 (V15 x0 1) = 2 ∧ S15.1 r7 = 3 ∧ CT l G bX5_readSum d mc15 ms15 [vr x0, vi 0] S15 (up (up V15 r7 1 (V15 (V15 x0 1) 2)) x0 5 1) (fun z17 S17 V17 mc17 ms17 => (z17 = 0 → Q 0 S17 V17) ∧ (¬ (z17 = 0) → S17.1 x0 = 6 ∧ CT l G bX5_accept d mc17 ms17 [vr x0, vi 41] S17 V17 (fun z20 S20 V20 mc20 ms20 => (z20 ≠ 0 → S20.1 x0 = 6 ∧ ((V20 x0 7) = 123 → CT l G bX5_accept d mc20 ms20 [vr x0, vi 123] S20 V20 (fun z24 S24 V24 mc24 ms24 => XJ l G bX5_readConstant Q d 151 [vr x0, vr r7, vi 1, vi 0] [] S24 V24 mc24 ms24)) ∧ (¬ ((V20 x0 7) = 123) → Q 1 S20 V20)) ∧ (¬ (z20 ≠ 0) → Q 0 S20 V20))))))))) ∧ (¬ (z4 ≠ 0) → Q 0 S4 V4))) ∧ (¬ (24 ≤ (V1 (V1 x0 4) 4)) → CT l G bX5_acceptNew d mc1 ms1 [vr x0, vi z1, vi 1] S1 V1 (fun z26 S26 V26 mc26 ms26 => (z26 ≠ 0 → 1 ≤ mc26 ∧ 4 ≤ ms26 ∧ (∀ (S29 : Sh) (V29 : Mem) (r29 : Int) (mc29 ms29 : Nat), r29 = S26.2.2 + 1 → S29 = nw S26 3 0 → V29 = clr V26 r29 → mc29 = mc26 - 1 → ms29 = ms26 - 4 → S29.1 x0 = 6 ∧ r29 ≠ 0 ∧ CT l G bX2_init d mc29 ms29 [vr r29, vl (V29 x0 9)] S29 V29 (fun z31 S31 V31 mc31 ms31 => S31.1 x0 = 6 ∧ S31.1 (V31 x0 4) = 4 ∧ S31.1 (V31 (V31 x0 4) 3) = 32 ∧ S31.1 r29 = 3 ∧ 0 ≤ (V31 (V31 x0 4) 4) ∧ (V31 (V31 x0 4) 4) < S31.2.1 (V31 (V31 x0 4) 3) ∧ -2147483648 ≤ (V31 (V31 x0 4) 4) + 1 ∧ (V31 (V31 x0 4) 4) + 1 ≤ 2147483647 ∧ ((V31 x0 7) ≠ 40 → ((V31 x0 7) = 123 → CT l G bX5_accept d mc31 ms31 [vr x0, vi 123] S31 (up (up V31 (V31 (V31 x0 4) 3) (V31 (V31 x0 4) 4) r29) (V31 x0 4) 4 ((V31 (V31 x0 4) 4) + 1)) (fun z35 S35 V35 mc35 ms35 => XJ l G bX5_readConstant Q d 151 [vr x0, vr r29, vi 1, vi 0] [] S35 V35 mc35 ms35)) ∧ (¬ ((V31 x0 7) = 123) → Q 1 S31 (up (up V31 (V31 (V31 x0 4) 3) (V31 (V31 x0 4) 4) r29) (V31 x0 4) 4 ((V31 (V31 x0 4) 4) + 1)))) ∧ (¬ ((V31 x0 7) ≠ 40) → CT l G bX5_accept d mc31 ms31 [vr x0, vi 40] S31 (up (up V31 (V31 (V31 x0 4) 3) (V31 (V31 x0 4) 4) r29) (V31 x0 4) 4 ((V31 (V31 x0 4) 4) + 1)) (fun z37 S37 V37 mc37 ms37 => S37.1 x0 = 6 ∧ S37.1 (V37 x0 1) = 2 ∧ S37.1 r29 = 3 ∧ CT l G bX5_readSum d mc37 ms37 [vr x0, vi 0] S37 (up (up V37 r29 1 (V37 (V37 x0 1) 2)) x0 5 1) (fun z39 S39 V39 mc39 ms39 => (z39 = 0 → Q 0 S39 V39) ∧ (¬ (z39 = 0) → S39.1 x0 = 6 ∧ CT l G bX5_accept d mc39 ms39 [vr x0, vi 41] S39 V39 (fun z42 S42 V42 mc42 ms42 => (z42 ≠ 0 → S42.1 x0 = 6 ∧ ((V42 x0 7) = 123 → CT l G bX5_accept d mc42 ms42 [vr x0, vi 123] S42 V42 (fun z46 S46 V46 mc46 ms46 => XJ l G bX5_readConstant Q d 151 [vr x0, vr r29, vi 1, vi 0] [] S46 V46 mc46 ms46)) ∧ (¬ ((V42 x0 7) = 123) → Q 1 S42 V42)) ∧ (¬ (z42 ≠ 0) → Q 0 S42 V42))))))))) ∧ (¬ (z26 ≠ 0) → Q 0 S26 V26))))) : XJ l G bX5_readConstant Q d 0 [vr x0, vu, vu, vu] [] S V mc ms := by
  refine X_aload_n dX5_readConstant_0 rfl ?_
  refine X_aload_n dX5_readConstant_1 rfl ?_
  refine X_getfield (ci := 5) (k := 4) (v := vr (V x0 4)) dX5_readConstant_2 rfl (by decide) kf_RX5_106 rfl h.1 ?_
  refine X_aload_n dX5_readConstant_5 rfl ?_
  refine X_getfield (ci := 5) (k := 8) (v := vl (V x0 8)) dX5_readConstant_6 rfl (by decide) kf_RX5_86 rfl h.1 ?_
  refine X_invV (ci := 3) (as := [vl (V x0 8)]) (st := [vr x0]) okX3_knows dX5_readConstant_9 km_RX5_124 rfl rfl (Nat.le_of_ble_eq_true rfl) rfl rfl h.2.1 (CT.imp h.2.2 (fun z1 S1 V1 mc1 ms1 hc2 => ?_))
  refine X_aload_n dX5_readConstant_12 rfl ?_
  refine X_getfield (ci := 5) (k := 4) (v := vr (V1 x0 4)) dX5_readConstant_13 rfl (by decide) kf_RX5_106 rfl hc2.1 ?_
  refine X_getfield (ci := 3) (k := 4) (v := vi (V1 (V1 x0 4) 4)) dX5_readConstant_16 rfl (by decide) kf_RX5_128 rfl hc2.2.1 ?_
  refine X_bipush dX5_readConstant_19 (by decide) (by decide) ?_
  refine X_icmp_ge dX5_readConstant_21 (tgt := 28) rfl (fun c3 => ?_) (fun c3 => ?_)
  · refine X_iconst dX5_readConstant_28 (by decide) ?_
    refine X_invV (ci := 5) (as := [vi z1, vi 0]) (st := []) okX5_acceptNew dX5_readConstant_29 km_RX5_94 rfl rfl (Nat.le_of_ble_eq_true rfl) rfl rfl hc2.1 (CT.imp (hc2.2.2.1 c3) (fun z4 S4 V4 mc4 ms4 hc5 => ?_))
    refine X_if_ne dX5_readConstant_32 (tgt := 37) rfl (fun c6 => ?_) (fun c6 => ?_)
    · refine X_newT (t := 3) (ci := 2) rfl dX5_readConstant_37 rfl ⟨kc_RX5_131, kn_2⟩ kd_2 (hc5.1 c6).1 (hc5.1 c6).2.1 ?_
      generalize hShn8 : nw S4 3 0 = S7
      generalize hVhn8 : clr V4 (S4.2.2 + 1) = V7
      generalize hrhn8 : S4.2.2 + 1 = r7 at hVhn8 ⊢
      generalize hmhn8 : mc4 - 1 = mc7
      generalize hkhn8 : ms4 - 4 = ms7
      have hn8 := (hc5.1 c6).2.2 S7 V7 r7 mc7 ms7 hrhn8.symm hShn8.symm hVhn8.symm hmhn8.symm hkhn8.symm
      refine X_dup dX5_readConstant_40 (rv_cat _) ?_
      refine X_aload_n dX5_readConstant_41 rfl ?_
      refine X_getfield (ci := 5) (k := 9) (v := vl (V7 x0 9)) dX5_readConstant_42 rfl (by decide) kf_RX5_100 rfl hn8.1 ?_
      refine X_invI (as := [vl (V7 x0 9)]) (st := [vr r7]) okX2_init dX5_readConstant_45 km_RX5_133 rfl rfl (Nat.le_of_ble_eq_true rfl) hn8.2.1 (CT.imp hn8.2.2 (fun z9 S9 V9 mc9 ms9 hc10 => ?_))
      refine X_astore_n dX5_readConstant_48 (by decide) rfl ?_
      refine X_aload_n dX5_readConstant_49 rfl ?_
      refine X_getfield (ci := 5) (k := 4) (v := vr (V9 x0 4)) dX5_readConstant_50 rfl (by decide) kf_RX5_106 rfl hc10.1 ?_
      refine X_getfield (ci := 3) (k := 3) (v := vr (V9 (V9 x0 4) 3)) dX5_readConstant_53 rfl (by decide) kf_RX5_134 rfl hc10.2.1 ?_
      refine X_aload_n dX5_readConstant_56 rfl ?_
      refine X_getfield (ci := 5) (k := 4) (v := vr (V9 x0 4)) dX5_readConstant_57 rfl (by decide) kf_RX5_106 rfl hc10.1 ?_
      refine X_getfield (ci := 3) (k := 4) (v := vi (V9 (V9 x0 4) 4)) dX5_readConstant_60 rfl (by decide) kf_RX5_128 rfl hc10.2.1 ?_
      refine X_aload_n dX5_readConstant_63 rfl ?_
      refine X_aastore (ci := 2) (t := 32) rfl dX5_readConstant_64 (by decide) rfl hc10.2.2.1 hc10.2.2.2.1 hc10.2.2.2.2.1 hc10.2.2.2.2.2.1 ?_
      refine X_aload_n dX5_readConstant_65 rfl ?_
      refine X_getfield (ci := 5) (k := 4) (v := vr (V9 x0 4)) dX5_readConstant_66 rfl (by decide) kf_RX5_106 (congrArg vr (up_ne (Or.inl (tag_ne hc10.1 hc10.2.2.1 (by decide))))) hc10.1 ?_
      refine X_dup dX5_readConstant_69 (rv_cat _) ?_
      refine X_getfield (ci := 3) (k := 4) (v := vi (V9 (V9 x0 4) 4)) dX5_readConstant_70 rfl (by decide) kf_RX5_128 (congrArg vi (up_ne (Or.inl (tag_ne hc10.2.1 hc10.2.2.1 (by decide))))) hc10.2.1 ?_
      refine X_iconst dX5_readConstant_73 (by decide) ?_
      refine X_iaddN dX5_readConstant_74 hc10.2.2.2.2.2.2.1 hc10.2.2.2.2.2.2.2.1 ?_
      refine X_putfield (ci := 3) (k := 4) (z := ((V9 (V9 x0 4) 4) + 1)) dX5_readConstant_75 rfl (by decide) kf_RX5_128 (Or.inl rfl) (Or.inl rfl) rfl (fun hv => hv) hc10.2.1 ?_
      refine X_aload_n dX5_readConstant_78 rfl ?_
      refine X_getfield (ci := 5) (k := 7) (v := vi (V9 x0 7)) dX5_readConstant_79 rfl (by decide) kf_RX5_52 (congrArg vi ((up_ne (Or.inl (tag_ne hc10.1 hc10.2.1 (by decide)))).trans (up_ne (Or.inl (tag_ne hc10.1 hc10.2.2.1 (by decide)))))) hc10.1 ?_
      refine X_bipush dX5_readConstant_82 (by decide) (by decide) ?_
      refine X_icmp_ne dX5_readConstant_84 (tgt := 129) rfl (fun c11 => ?_) (fun c11 => ?_)
      · refine X_aload_n dX5_readConstant_129 rfl ?_
        refine X_getfield (ci := 5) (k := 7) (v := vi (V9 x0 7)) dX5_readConstant_130 rfl (by decide) kf_RX5_52 (congrArg vi ((up_ne (Or.inl (tag_ne hc10.1 hc10.2.1 (by decide)))).trans (up_ne (Or.inl (tag_ne hc10.1 hc10.2.2.1 (by decide)))))) hc10.1 ?_
        refine X_bipush dX5_readConstant_133 (by decide) (by decide) ?_
        refine X_icmp_eq dX5_readConstant_135 (tgt := 140) rfl (fun c12 => ?_) (fun c12 => ?_)
        · refine X_aload_n dX5_readConstant_140 rfl ?_
          refine X_bipush dX5_readConstant_141 (by decide) (by decide) ?_
          refine X_invV (ci := 5) (as := [vi 123]) (st := []) okX5_accept dX5_readConstant_143 km_RX5_117 rfl rfl (Nat.le_of_ble_eq_true rfl) rfl rfl hc10.1 (CT.imp ((hc10.2.2.2.2.2.2.2.2.1 c11).1 c12) (fun z13 S13 V13 mc13 ms13 hc14 => ?_))
          refine X_pop dX5_readConstant_146 rfl ?_
          refine X_iconst dX5_readConstant_147 (by decide) ?_
          refine X_istore_n dX5_readConstant_148 (by decide) rfl ?_
          refine X_iconst dX5_readConstant_149 (by decide) ?_
          refine X_istore_n dX5_readConstant_150 (by decide) rfl ?_
          exact hc14
        · refine X_iconst dX5_readConstant_138 (by decide) ?_
          exact X_ret (z := 1) dX5_readConstant_139 rfl (fun _ => Or.inr rfl) ((hc10.2.2.2.2.2.2.2.2.1 c11).2 c12)
      · refine X_aload_n dX5_readConstant_87 rfl ?_
        refine X_bipush dX5_readConstant_88 (by decide) (by decide) ?_
        refine X_invV (ci := 5) (as := [vi 40]) (st := []) okX5_accept dX5_readConstant_90 km_RX5_117 rfl rfl (Nat.le_of_ble_eq_true rfl) rfl rfl hc10.1 (CT.imp (hc10.2.2.2.2.2.2.2.2.2 c11) (fun z15 S15 V15 mc15 ms15 hc16 => ?_))
        refine X_pop dX5_readConstant_93 rfl ?_
        refine X_aload_n dX5_readConstant_94 rfl ?_
        refine X_aload_n dX5_readConstant_95 rfl ?_
        refine X_getfield (ci := 5) (k := 1) (v := vr (V15 x0 1)) dX5_readConstant_96 rfl (by decide) kf_RX5_14 rfl hc16.1 ?_
        refine X_getfield (ci := 1) (k := 2) (v := vi (V15 (V15 x0 1) 2)) dX5_readConstant_99 rfl (by decide) kf_RX5_35 rfl hc16.2.1 ?_
        refine X_putfield (ci := 2) (k := 1) (z := (V15 (V15 x0 1) 2)) dX5_readConstant_102 rfl (by decide) kf_RX5_138 (Or.inl rfl) (Or.inl rfl) rfl (fun hv => hv) hc16.2.2.1 ?_
        refine X_aload_n dX5_readConstant_105 rfl ?_
        refine X_iconst dX5_readConstant_106 (by decide) ?_
        refine X_putfield (ci := 5) (k := 5) (z := 1) dX5_readConstant_107 rfl (by decide) kf_RX5_141 (Or.inl rfl) (Or.inl rfl) rfl (fun hv => hv) hc16.1 ?_
        refine X_aload_n dX5_readConstant_110 rfl ?_
        refine X_iconst dX5_readConstant_111 (by decide) ?_
        refine X_invV (ci := 5) (as := [vi 0]) (st := []) okX5_readSum dX5_readConstant_112 km_RX5_144 rfl rfl (Nat.le_of_ble_eq_true rfl) rfl rfl hc16.1 (CT.imp hc16.2.2.2 (fun z17 S17 V17 mc17 ms17 hc18 => ?_))
        refine X_if_eq dX5_readConstant_115 (tgt := 127) rfl (fun c19 => ?_) (fun c19 => ?_)
        · refine X_iconst dX5_readConstant_127 (by decide) ?_
          exact X_ret (z := 0) dX5_readConstant_128 rfl (fun _ => Or.inl rfl) (hc18.1 c19)
        · refine X_aload_n dX5_readConstant_118 rfl ?_
          refine X_bipush dX5_readConstant_119 (by decide) (by decide) ?_
          refine X_invV (ci := 5) (as := [vi 41]) (st := []) okX5_accept dX5_readConstant_121 km_RX5_117 rfl rfl (Nat.le_of_ble_eq_true rfl) rfl rfl (hc18.2 c19).1 (CT.imp (hc18.2 c19).2 (fun z20 S20 V20 mc20 ms20 hc21 => ?_))
          refine X_if_ne dX5_readConstant_124 (tgt := 129) rfl (fun c22 => ?_) (fun c22 => ?_)
          · refine X_aload_n dX5_readConstant_129 rfl ?_
            refine X_getfield (ci := 5) (k := 7) (v := vi (V20 x0 7)) dX5_readConstant_130 rfl (by decide) kf_RX5_52 rfl (hc21.1 c22).1 ?_
            refine X_bipush dX5_readConstant_133 (by decide) (by decide) ?_
            refine X_icmp_eq dX5_readConstant_135 (tgt := 140) rfl (fun c23 => ?_) (fun c23 => ?_)
            · refine X_aload_n dX5_readConstant_140 rfl ?_
              refine X_bipush dX5_readConstant_141 (by decide) (by decide) ?_
              refine X_invV (ci := 5) (as := [vi 123]) (st := []) okX5_accept dX5_readConstant_143 km_RX5_117 rfl rfl (Nat.le_of_ble_eq_true rfl) rfl rfl (hc21.1 c22).1 (CT.imp ((hc21.1 c22).2.1 c23) (fun z24 S24 V24 mc24 ms24 hc25 => ?_))
              refine X_pop dX5_readConstant_146 rfl ?_
              refine X_iconst dX5_readConstant_147 (by decide) ?_
              refine X_istore_n dX5_readConstant_148 (by decide) rfl ?_
              refine X_iconst dX5_readConstant_149 (by decide) ?_
              refine X_istore_n dX5_readConstant_150 (by decide) rfl ?_
              exact hc25
            · refine X_iconst dX5_readConstant_138 (by decide) ?_
              exact X_ret (z := 1) dX5_readConstant_139 rfl (fun _ => Or.inr rfl) ((hc21.1 c22).2.2 c23)
          · refine X_iconst dX5_readConstant_127 (by decide) ?_
            exact X_ret (z := 0) dX5_readConstant_128 rfl (fun _ => Or.inl rfl) (hc21.2 c22)
    · refine X_iconst dX5_readConstant_35 (by decide) ?_
      exact X_ret (z := 0) dX5_readConstant_36 rfl (fun _ => Or.inl rfl) (hc5.2 c6)
  · refine X_iconst dX5_readConstant_24 (by decide) ?_
    refine X_goto dX5_readConstant_25 (tgt := 29) rfl ?_
    refine X_invV (ci := 5) (as := [vi z1, vi 1]) (st := []) okX5_acceptNew dX5_readConstant_29 km_RX5_94 rfl rfl (Nat.le_of_ble_eq_true rfl) rfl rfl hc2.1 (CT.imp (hc2.2.2.2 c3) (fun z26 S26 V26 mc26 ms26 hc27 => ?_))
    refine X_if_ne dX5_readConstant_32 (tgt := 37) rfl (fun c28 => ?_) (fun c28 => ?_)
    · refine X_newT (t := 3) (ci := 2) rfl dX5_readConstant_37 rfl ⟨kc_RX5_131, kn_2⟩ kd_2 (hc27.1 c28).1 (hc27.1 c28).2.1 ?_
      generalize hShn30 : nw S26 3 0 = S29
      generalize hVhn30 : clr V26 (S26.2.2 + 1) = V29
      generalize hrhn30 : S26.2.2 + 1 = r29 at hVhn30 ⊢
      generalize hmhn30 : mc26 - 1 = mc29
      generalize hkhn30 : ms26 - 4 = ms29
      have hn30 := (hc27.1 c28).2.2 S29 V29 r29 mc29 ms29 hrhn30.symm hShn30.symm hVhn30.symm hmhn30.symm hkhn30.symm
      refine X_dup dX5_readConstant_40 (rv_cat _) ?_
      refine X_aload_n dX5_readConstant_41 rfl ?_
      refine X_getfield (ci := 5) (k := 9) (v := vl (V29 x0 9)) dX5_readConstant_42 rfl (by decide) kf_RX5_100 rfl hn30.1 ?_
      refine X_invI (as := [vl (V29 x0 9)]) (st := [vr r29]) okX2_init dX5_readConstant_45 km_RX5_133 rfl rfl (Nat.le_of_ble_eq_true rfl) hn30.2.1 (CT.imp hn30.2.2 (fun z31 S31 V31 mc31 ms31 hc32 => ?_))
      refine X_astore_n dX5_readConstant_48 (by decide) rfl ?_
      refine X_aload_n dX5_readConstant_49 rfl ?_
      refine X_getfield (ci := 5) (k := 4) (v := vr (V31 x0 4)) dX5_readConstant_50 rfl (by decide) kf_RX5_106 rfl hc32.1 ?_
      refine X_getfield (ci := 3) (k := 3) (v := vr (V31 (V31 x0 4) 3)) dX5_readConstant_53 rfl (by decide) kf_RX5_134 rfl hc32.2.1 ?_
      refine X_aload_n dX5_readConstant_56 rfl ?_
      refine X_getfield (ci := 5) (k := 4) (v := vr (V31 x0 4)) dX5_readConstant_57 rfl (by decide) kf_RX5_106 rfl hc32.1 ?_
      refine X_getfield (ci := 3) (k := 4) (v := vi (V31 (V31 x0 4) 4)) dX5_readConstant_60 rfl (by decide) kf_RX5_128 rfl hc32.2.1 ?_
      refine X_aload_n dX5_readConstant_63 rfl ?_
      refine X_aastore (ci := 2) (t := 32) rfl dX5_readConstant_64 (by decide) rfl hc32.2.2.1 hc32.2.2.2.1 hc32.2.2.2.2.1 hc32.2.2.2.2.2.1 ?_
      refine X_aload_n dX5_readConstant_65 rfl ?_
      refine X_getfield (ci := 5) (k := 4) (v := vr (V31 x0 4)) dX5_readConstant_66 rfl (by decide) kf_RX5_106 (congrArg vr (up_ne (Or.inl (tag_ne hc32.1 hc32.2.2.1 (by decide))))) hc32.1 ?_
      refine X_dup dX5_readConstant_69 (rv_cat _) ?_
      refine X_getfield (ci := 3) (k := 4) (v := vi (V31 (V31 x0 4) 4)) dX5_readConstant_70 rfl (by decide) kf_RX5_128 (congrArg vi (up_ne (Or.inl (tag_ne hc32.2.1 hc32.2.2.1 (by decide))))) hc32.2.1 ?_
      refine X_iconst dX5_readConstant_73 (by decide) ?_
      refine X_iaddN dX5_readConstant_74 hc32.2.2.2.2.2.2.1 hc32.2.2.2.2.2.2.2.1 ?_
      refine X_putfield (ci := 3) (k := 4) (z := ((V31 (V31 x0 4) 4) + 1)) dX5_readConstant_75 rfl (by decide) kf_RX5_128 (Or.inl rfl) (Or.inl rfl) rfl (fun hv => hv) hc32.2.1 ?_
      refine X_aload_n dX5_readConstant_78 rfl ?_
      refine X_getfield (ci := 5) (k := 7) (v := vi (V31 x0 7)) dX5_readConstant_79 rfl (by decide) kf_RX5_52 (congrArg vi ((up_ne (Or.inl (tag_ne hc32.1 hc32.2.1 (by decide)))).trans (up_ne (Or.inl (tag_ne hc32.1 hc32.2.2.1 (by decide)))))) hc32.1 ?_
      refine X_bipush dX5_readConstant_82 (by decide) (by decide) ?_
      refine X_icmp_ne dX5_readConstant_84 (tgt := 129) rfl (fun c33 => ?_) (fun c33 => ?_)
      · refine X_aload_n dX5_readConstant_129 rfl ?_
        refine X_getfield (ci := 5) (k := 7) (v := vi (V31 x0 7)) dX5_readConstant_130 rfl (by decide) kf_RX5_52 (congrArg vi ((up_ne (Or.inl (tag_ne hc32.1 hc32.2.1 (by decide)))).trans (up_ne (Or.inl (tag_ne hc32.1 hc32.2.2.1 (by decide)))))) hc32.1 ?_
        refine X_bipush dX5_readConstant_133 (by decide) (by decide) ?_
        refine X_icmp_eq dX5_readConstant_135 (tgt := 140) rfl (fun c34 => ?_) (fun c34 => ?_)
        · refine X_aload_n dX5_readConstant_140 rfl ?_
          refine X_bipush dX5_readConstant_141 (by decide) (by decide) ?_
          refine X_invV (ci := 5) (as := [vi 123]) (st := []) okX5_accept dX5_readConstant_143 km_RX5_117 rfl rfl (Nat.le_of_ble_eq_true rfl) rfl rfl hc32.1 (CT.imp ((hc32.2.2.2.2.2.2.2.2.1 c33).1 c34) (fun z35 S35 V35 mc35 ms35 hc36 => ?_))
          refine X_pop dX5_readConstant_146 rfl ?_
          refine X_iconst dX5_readConstant_147 (by decide) ?_
          refine X_istore_n dX5_readConstant_148 (by decide) rfl ?_
          refine X_iconst dX5_readConstant_149 (by decide) ?_
          refine X_istore_n dX5_readConstant_150 (by decide) rfl ?_
          exact hc36
        · refine X_iconst dX5_readConstant_138 (by decide) ?_
          exact X_ret (z := 1) dX5_readConstant_139 rfl (fun _ => Or.inr rfl) ((hc32.2.2.2.2.2.2.2.2.1 c33).2 c34)
      · refine X_aload_n dX5_readConstant_87 rfl ?_
        refine X_bipush dX5_readConstant_88 (by decide) (by decide) ?_
        refine X_invV (ci := 5) (as := [vi 40]) (st := []) okX5_accept dX5_readConstant_90 km_RX5_117 rfl rfl (Nat.le_of_ble_eq_true rfl) rfl rfl hc32.1 (CT.imp (hc32.2.2.2.2.2.2.2.2.2 c33) (fun z37 S37 V37 mc37 ms37 hc38 => ?_))
        refine X_pop dX5_readConstant_93 rfl ?_
        refine X_aload_n dX5_readConstant_94 rfl ?_
        refine X_aload_n dX5_readConstant_95 rfl ?_
        refine X_getfield (ci := 5) (k := 1) (v := vr (V37 x0 1)) dX5_readConstant_96 rfl (by decide) kf_RX5_14 rfl hc38.1 ?_
        refine X_getfield (ci := 1) (k := 2) (v := vi (V37 (V37 x0 1) 2)) dX5_readConstant_99 rfl (by decide) kf_RX5_35 rfl hc38.2.1 ?_
        refine X_putfield (ci := 2) (k := 1) (z := (V37 (V37 x0 1) 2)) dX5_readConstant_102 rfl (by decide) kf_RX5_138 (Or.inl rfl) (Or.inl rfl) rfl (fun hv => hv) hc38.2.2.1 ?_
        refine X_aload_n dX5_readConstant_105 rfl ?_
        refine X_iconst dX5_readConstant_106 (by decide) ?_
        refine X_putfield (ci := 5) (k := 5) (z := 1) dX5_readConstant_107 rfl (by decide) kf_RX5_141 (Or.inl rfl) (Or.inl rfl) rfl (fun hv => hv) hc38.1 ?_
        refine X_aload_n dX5_readConstant_110 rfl ?_
        refine X_iconst dX5_readConstant_111 (by decide) ?_
        refine X_invV (ci := 5) (as := [vi 0]) (st := []) okX5_readSum dX5_readConstant_112 km_RX5_144 rfl rfl (Nat.le_of_ble_eq_true rfl) rfl rfl hc38.1 (CT.imp hc38.2.2.2 (fun z39 S39 V39 mc39 ms39 hc40 => ?_))
        refine X_if_eq dX5_readConstant_115 (tgt := 127) rfl (fun c41 => ?_) (fun c41 => ?_)
        · refine X_iconst dX5_readConstant_127 (by decide) ?_
          exact X_ret (z := 0) dX5_readConstant_128 rfl (fun _ => Or.inl rfl) (hc40.1 c41)
        · refine X_aload_n dX5_readConstant_118 rfl ?_
          refine X_bipush dX5_readConstant_119 (by decide) (by decide) ?_
          refine X_invV (ci := 5) (as := [vi 41]) (st := []) okX5_accept dX5_readConstant_121 km_RX5_117 rfl rfl (Nat.le_of_ble_eq_true rfl) rfl rfl (hc40.2 c41).1 (CT.imp (hc40.2 c41).2 (fun z42 S42 V42 mc42 ms42 hc43 => ?_))
          refine X_if_ne dX5_readConstant_124 (tgt := 129) rfl (fun c44 => ?_) (fun c44 => ?_)
          · refine X_aload_n dX5_readConstant_129 rfl ?_
            refine X_getfield (ci := 5) (k := 7) (v := vi (V42 x0 7)) dX5_readConstant_130 rfl (by decide) kf_RX5_52 rfl (hc43.1 c44).1 ?_
            refine X_bipush dX5_readConstant_133 (by decide) (by decide) ?_
            refine X_icmp_eq dX5_readConstant_135 (tgt := 140) rfl (fun c45 => ?_) (fun c45 => ?_)
            · refine X_aload_n dX5_readConstant_140 rfl ?_
              refine X_bipush dX5_readConstant_141 (by decide) (by decide) ?_
              refine X_invV (ci := 5) (as := [vi 123]) (st := []) okX5_accept dX5_readConstant_143 km_RX5_117 rfl rfl (Nat.le_of_ble_eq_true rfl) rfl rfl (hc43.1 c44).1 (CT.imp ((hc43.1 c44).2.1 c45) (fun z46 S46 V46 mc46 ms46 hc47 => ?_))
              refine X_pop dX5_readConstant_146 rfl ?_
              refine X_iconst dX5_readConstant_147 (by decide) ?_
              refine X_istore_n dX5_readConstant_148 (by decide) rfl ?_
              refine X_iconst dX5_readConstant_149 (by decide) ?_
              refine X_istore_n dX5_readConstant_150 (by decide) rfl ?_
              exact hc47
            · refine X_iconst dX5_readConstant_138 (by decide) ?_
              exact X_ret (z := 1) dX5_readConstant_139 rfl (fun _ => Or.inr rfl) ((hc43.1 c44).2.2 c45)
          · refine X_iconst dX5_readConstant_127 (by decide) ?_
            exact X_ret (z := 0) dX5_readConstant_128 rfl (fun _ => Or.inl rfl) (hc43.2 c44)
    · refine X_iconst dX5_readConstant_35 (by decide) ?_
      exact X_ret (z := 0) dX5_readConstant_36 rfl (fun _ => Or.inl rfl) (hc27.2 c28)
set_option maxRecDepth 10000 in
theorem vX5_readConstant_151 {l : Launch} {G : GT} {Q : Int → Sh → Mem → Prop} {d : Nat} {S : Sh} {V : Mem} {mc ms : Nat} {x0 x1 x2 x3 : Int} (h : (4 < x3 → S.1 x0 = 6 ∧ CT l G bX5_accept d mc ms [vr x0, vi 125] S V (fun z2 S2 V2 mc2 ms2 => (z2 = 0 ∨ z2 = 1) ∧ Q z2 S2 V2)) ∧ (¬ (4 < x3) → (x2 = 0 → S.1 x0 = 6 ∧ CT l G bX5_accept d mc ms [vr x0, vi 125] S V (fun z5 S5 V5 mc5 ms5 => (z5 = 0 ∨ z5 = 1) ∧ Q z5 S5 V5)) ∧ (¬ (x2 = 0) → S.1 x1 = 3 ∧ S.1 x0 = 6 ∧ CT l G bX5_readAct d mc ms [vr x0, vr (V x1 3), vi 3] S V (fun z7 S7 V7 mc7 ms7 => (z7 ≠ 0 → S7.1 x0 = 6 ∧ ((V7 x0 7) ≠ 5 → -2147483648 ≤ x3 + 1 ∧ x3 + 1 ≤ 2147483647 ∧ XJ l G bX5_readConstant Q d 151 [vr x0, vr x1, vi 0, vi (x3 + 1)] [] S7 V7 mc7 ms7) ∧ (¬ ((V7 x0 7) ≠ 5) → -2147483648 ≤ x3 + 1 ∧ x3 + 1 ≤ 2147483647 ∧ XJ l G bX5_readConstant Q d 151 [vr x0, vr x1, vi 1, vi (x3 + 1)] [] S7 V7 mc7 ms7)) ∧ (¬ (z7 ≠ 0) → Q 0 S7 V7))))) : XJ l G bX5_readConstant Q d 151 [vr x0, vr x1, vi x2, vi x3] [] S V mc ms := by
  refine X_iload_n dX5_readConstant_151 rfl ?_
  refine X_iconst dX5_readConstant_152 (by decide) ?_
  refine X_icmp_gt dX5_readConstant_153 (tgt := 194) rfl (fun c1 => ?_) (fun c1 => ?_)
  · refine X_aload_n dX5_readConstant_194 rfl ?_
    refine X_bipush dX5_readConstant_195 (by decide) (by decide) ?_
    refine X_invV (ci := 5) (as := [vi 125]) (st := []) okX5_accept dX5_readConstant_197 km_RX5_117 rfl rfl (Nat.le_of_ble_eq_true rfl) rfl rfl (h.1 c1).1 (CT.imp (h.1 c1).2 (fun z2 S2 V2 mc2 ms2 hc3 => ?_))
    exact X_ret (z := z2) dX5_readConstant_200 rfl (fun _ => hc3.1) hc3.2
  · refine X_iload_n dX5_readConstant_156 rfl ?_
    refine X_if_eq dX5_readConstant_157 (tgt := 194) rfl (fun c4 => ?_) (fun c4 => ?_)
    · refine X_aload_n dX5_readConstant_194 rfl ?_
      refine X_bipush dX5_readConstant_195 (by decide) (by decide) ?_
      refine X_invV (ci := 5) (as := [vi 125]) (st := []) okX5_accept dX5_readConstant_197 km_RX5_117 rfl rfl (Nat.le_of_ble_eq_true rfl) rfl rfl ((h.2 c1).1 c4).1 (CT.imp ((h.2 c1).1 c4).2 (fun z5 S5 V5 mc5 ms5 hc6 => ?_))
      exact X_ret (z := z5) dX5_readConstant_200 rfl (fun _ => hc6.1) hc6.2
    · refine X_aload_n dX5_readConstant_160 rfl ?_
      refine X_aload_n dX5_readConstant_161 rfl ?_
      refine X_getfield (ci := 2) (k := 3) (v := vr (V x1 3)) dX5_readConstant_162 rfl (by decide) kf_RX5_147 rfl ((h.2 c1).2 c4).1 ?_
      refine X_iconst dX5_readConstant_165 (by decide) ?_
      refine X_invV (ci := 5) (as := [vr (V x1 3), vi 3]) (st := []) okX5_readAct dX5_readConstant_166 km_RX5_150 rfl rfl (Nat.le_of_ble_eq_true rfl) rfl rfl ((h.2 c1).2 c4).2.1 (CT.imp ((h.2 c1).2 c4).2.2 (fun z7 S7 V7 mc7 ms7 hc8 => ?_))
      refine X_if_ne dX5_readConstant_169 (tgt := 174) rfl (fun c9 => ?_) (fun c9 => ?_)
      · refine X_aload_n dX5_readConstant_174 rfl ?_
        refine X_getfield (ci := 5) (k := 7) (v := vi (V7 x0 7)) dX5_readConstant_175 rfl (by decide) kf_RX5_52 rfl (hc8.1 c9).1 ?_
        refine X_iconst dX5_readConstant_178 (by decide) ?_
        refine X_icmp_ne dX5_readConstant_179 (tgt := 186) rfl (fun c10 => ?_) (fun c10 => ?_)
        · refine X_iconst dX5_readConstant_186 (by decide) ?_
          refine X_istore_n dX5_readConstant_187 (by decide) rfl ?_
          refine X_iincN dX5_readConstant_188 rfl (by decide) rfl (e := x3 + 1) rfl ((hc8.1 c9).2.1 c10).1 ((hc8.1 c9).2.1 c10).2.1 ?_
          refine X_goto dX5_readConstant_191 (tgt := 151) rfl ?_
          exact ((hc8.1 c9).2.1 c10).2.2
        · refine X_iconst dX5_readConstant_182 (by decide) ?_
          refine X_goto dX5_readConstant_183 (tgt := 187) rfl ?_
          refine X_istore_n dX5_readConstant_187 (by decide) rfl ?_
          refine X_iincN dX5_readConstant_188 rfl (by decide) rfl (e := x3 + 1) rfl ((hc8.1 c9).2.2 c10).1 ((hc8.1 c9).2.2 c10).2.1 ?_
          refine X_goto dX5_readConstant_191 (tgt := 151) rfl ?_
          exact ((hc8.1 c9).2.2 c10).2.2
      · refine X_iconst dX5_readConstant_172 (by decide) ?_
        exact X_ret (z := 0) dX5_readConstant_173 rfl (fun _ => Or.inl rfl) (hc8.2 c9)
theorem qX5_readConstant {l : Launch} {G : GT} {Q : Int → Sh → Mem → Prop} {d : Nat} {S : Sh} {V : Mem} {mc ms : Nat} {x0 : Int} (h : 0 ≤ x0 → XJ l G bX5_readConstant Q d 0 [vr x0, vu, vu, vu] [] S V mc ms) : Ct l G bX5_readConstant Q d mc ms [vr x0] S V := Ct.of okX5_readConstant.1 trivial (Nat.le_of_ble_eq_true rfl) (fun hv => h (hv _ (List.mem_of_getElem? (i := 0) rfl)))
set_option maxRecDepth 10000 in
theorem vX5_readAct_0 {l : Launch} {G : GT} {Q : Int → Sh → Mem → Prop} {d : Nat} {S : Sh} {V : Mem} {mc ms : Nat} {x0 x1 x2 : Int} (h : S.1 x0 = 6 ∧ CT l G bX5_accept d mc ms [vr x0, vi 5] S V (fun z1 S1 V1 mc1 ms1 => (z1 ≠ 0 → S1.1 x0 = 6 ∧ CT l G bX5_findAct d mc1 ms1 [vr x0, vl (V1 x0 8)] S1 V1 (fun z4 S4 V4 mc4 ms4 => (0 ≤ z4 → S4.1 x1 = 20 ∧ 0 ≤ z4 ∧ z4 < S4.2.1 x1 ∧ ((V4 x1 z4) = (-1) → S4.1 x0 = 6 ∧ CT l G bX5_acceptNew d mc4 ms4 [vr x0, vi 0, vi 1] S4 V4 (fun z8 S8 V8 mc8 ms8 => (z8 ≠ 0 → S8.1 x0 = 6 ∧ S8.1 (V8 x0 1) = 2 ∧ S8.1 x1 = 20 ∧ 0 ≤ z4 ∧ z4 < S8.2.1 x1 ∧ CT l G bX5_accept d mc8 ms8 [vr x0, vi 61] S8 (up (up V8 x1 z4 (V8 (V8 x0 1) 2)) x0 5 x2) (fun z11 S11 V11 mc11 ms11 => (z11 = 0 → Q 0 S11 V11) ∧ (¬ (z11 = 0) → S11.1 x0 = 6 ∧ CT l G bX5_readSum d mc11 ms11 [vr x0, vi 0] S11 V11 (fun z14 S14 V14 mc14 ms14 => (z14 = 0 → Q 0 S14 V14) ∧ (¬ (z14 = 0) → S14.1 x0 = 6 ∧ CT l G bX5_accept d mc14 ms14 [vr x0, vi 59] S14 V14 (fun z17 S17 V17 mc17 ms17 => (z17 = 0 → Q 0 S17 V17) ∧ (¬ (z17 = 0) → Q 1 S17 V17))))))) ∧ (¬ (z8 ≠ 0) → Q 0 S8 V8))) ∧ (¬ ((V4 x1 z4) = (-1)) → S4.1 x0 = 6 ∧ CT l G bX5_acceptNew d mc4 ms4 [vr x0, vi 1, vi 1] S4 V4 (fun z20 S20 V20 mc20 ms20 => (z20 ≠ 0 → S20.1 x0 = 6 ∧ S20.1 (V20 x0 1) = 2 ∧ S20.1 x1 = 20 ∧ 0 ≤ z4 ∧ z4 < S20.2.1 x1 ∧ CT l G bX5_accept d mc20 ms20 [vr x0, vi 61] S20 (up (up V20 x1 z4 (V20 (V20 x0 1) 2)) x0 5 x2) (fun z23 S23 V23 mc23 ms23 => (z23 = 0 → Q 0 S23 V23) ∧ (¬ (z23 = 0) → S23.1 x0 = 6 ∧ CT l G bX5_readSum d mc23 ms23 [vr x0, vi 0] S23 V23 (fun z26 S26 V26 mc26 ms26 => (z26 = 0 → Q 0 S26 V26) ∧ (¬ (z26 = 0) → S26.1 x0 = 6 ∧ CT l G bX5_accept d mc26 ms26 [vr x0, vi 59] S26 V26 (fun z29 S29 V29 mc29 ms29 => (z29 = 0 → Q 0 S29 V29) ∧ (¬ (z29 = 0) → Q 1 S29 V29))))))) ∧ (¬ (z20 ≠ 0) → Q 0 S20 V20)))) ∧ (¬ (0 ≤ z4) → S4.1 x0 = 6 ∧ S4.1 (V4 x0 3) = 1 ∧ (4 ≤ (V4 (V4 x0 3) 2) → CT l G bX5_acceptNew d mc4 ms4 [vr x0, vi 0, vi 0] S4 V4 (fun z33 S33 V33 mc33 ms33 => (z33 ≠ 0 → S33.1 x0 = 6 ∧ S33.1 (V33 x0 3) = 1 ∧ S33.1 (V33 x0 2) = 22 ∧ 0 ≤ (V33 (V33 x0 3) 2) ∧ (V33 (V33 x0 3) 2) < S33.2.1 (V33 x0 2) ∧ -2147483648 ≤ (V33 (V33 x0 3) 2) + 1 ∧ (V33 (V33 x0 3) 2) + 1 ≤ 2147483647 ∧ S33.1 (V33 x0 1) = 2 ∧ S33.1 x1 = 20 ∧ (V33 (V33 x0 3) 2) < S33.2.1 x1 ∧ CT l G bX5_accept d mc33 ms33 [vr x0, vi 61] S33 (up (up (up (up V33 (V33 x0 2) (V33 (V33 x0 3) 2) (V33 x0 9)) (V33 x0 3) 2 ((V33 (V33 x0 3) 2) + 1)) x1 (V33 (V33 x0 3) 2) (V33 (V33 x0 1) 2)) x0 5 x2) (fun z36 S36 V36 mc36 ms36 => (z36 = 0 → Q 0 S36 V36) ∧ (¬ (z36 = 0) → S36.1 x0 = 6 ∧ CT l G bX5_readSum d mc36 ms36 [vr x0, vi 0] S36 V36 (fun z39 S39 V39 mc39 ms39 => (z39 = 0 → Q 0 S39 V39) ∧ (¬ (z39 = 0) → S39.1 x0 = 6 ∧ CT l G bX5_accept d mc39 ms39 [vr x0, vi 59] S39 V39 (fun z42 S42 V42 mc42 ms42 => (z42 = 0 → Q 0 S42 V42) ∧ (¬ (z42 = 0) → Q 1 S42 V42))))))) ∧ (¬ (z33 ≠ 0) → Q 0 S33 V33))) ∧ (¬ (4 ≤ (V4 (V4 x0 3) 2)) → CT l G bX5_acceptNew d mc4 ms4 [vr x0, vi 0, vi 1] S4 V4 (fun z45 S45 V45 mc45 ms45 => (z45 ≠ 0 → S45.1 x0 = 6 ∧ S45.1 (V45 x0 3) = 1 ∧ S45.1 (V45 x0 2) = 22 ∧ 0 ≤ (V45 (V45 x0 3) 2) ∧ (V45 (V45 x0 3) 2) < S45.2.1 (V45 x0 2) ∧ -2147483648 ≤ (V45 (V45 x0 3) 2) + 1 ∧ (V45 (V45 x0 3) 2) + 1 ≤ 2147483647 ∧ S45.1 (V45 x0 1) = 2 ∧ S45.1 x1 = 20 ∧ (V45 (V45 x0 3) 2) < S45.2.1 x1 ∧ CT l G bX5_accept d mc45 ms45 [vr x0, vi 61] S45 (up (up (up (up V45 (V45 x0 2) (V45 (V45 x0 3) 2) (V45 x0 9)) (V45 x0 3) 2 ((V45 (V45 x0 3) 2) + 1)) x1 (V45 (V45 x0 3) 2) (V45 (V45 x0 1) 2)) x0 5 x2) (fun z48 S48 V48 mc48 ms48 => (z48 = 0 → Q 0 S48 V48) ∧ (¬ (z48 = 0) → S48.1 x0 = 6 ∧ CT l G bX5_readSum d mc48 ms48 [vr x0, vi 0] S48 V48 (fun z51 S51 V51 mc51 ms51 => (z51 = 0 → Q 0 S51 V51) ∧ (¬ (z51 = 0) → S51.1 x0 = 6 ∧ CT l G bX5_accept d mc51 ms51 [vr x0, vi 59] S51 V51 (fun z54 S54 V54 mc54 ms54 => (z54 = 0 → Q 0 S54 V54) ∧ (¬ (z54 = 0) → Q 1 S54 V54))))))) ∧ (¬ (z45 ≠ 0) → Q 0 S45 V45)))))) ∧ (¬ (z1 ≠ 0) → Q 0 S1 V1))) : XJ l G bX5_readAct Q d 0 [vr x0, vr x1, vi x2, vu, vu] [] S V mc ms := by
  refine X_aload_n dX5_readAct_0 rfl ?_
  refine X_iconst dX5_readAct_1 (by decide) ?_
  refine X_invV (ci := 5) (as := [vi 5]) (st := []) okX5_accept dX5_readAct_2 km_RX5_117 rfl rfl (Nat.le_of_ble_eq_true rfl) rfl rfl h.1 (CT.imp h.2 (fun z1 S1 V1 mc1 ms1 hc2 => ?_))
  refine X_if_ne dX5_readAct_5 (tgt := 10) rfl (fun c3 => ?_) (fun c3 => ?_)
  · refine X_aload_n dX5_readAct_10 rfl ?_
    refine X_aload_n dX5_readAct_11 rfl ?_
    refine X_getfield (ci := 5) (k := 8) (v := vl (V1 x0 8)) dX5_readAct_12 rfl (by decide) kf_RX5_86 rfl (hc2.1 c3).1 ?_
    refine X_invV (ci := 5) (as := [vl (V1 x0 8)]) (st := []) okX5_findAct dX5_readAct_15 km_RX5_154 rfl rfl (Nat.le_of_ble_eq_true rfl) rfl rfl (hc2.1 c3).1 (CT.imp (hc2.1 c3).2 (fun z4 S4 V4 mc4 ms4 hc5 => ?_))
    refine X_istore_n dX5_readAct_18 (by decide) rfl ?_
    refine X_iload_n dX5_readAct_19 rfl ?_
    refine X_if_ge dX5_readAct_20 (tgt := 27) rfl (fun c6 => ?_) (fun c6 => ?_)
    · refine X_iconst dX5_readAct_27 (by decide) ?_
      refine X_istore dX5_readAct_28 (by decide) rfl ?_
      refine X_aload_n dX5_readAct_30 rfl ?_
      refine X_iload dX5_readAct_31 rfl ?_
      refine X_if_ne dX5_readAct_33 (tgt := 47) rfl (fun c => absurd c (by decide)) (fun _ => ?_)
      refine X_aload_n dX5_readAct_36 rfl ?_
      refine X_iload_n dX5_readAct_37 rfl ?_
      refine X_iaload dX5_readAct_38 (hc5.1 c6).1 (hc5.1 c6).2.1 (hc5.1 c6).2.2.1 ?_
      refine X_iconst dX5_readAct_39 (by decide) ?_
      refine X_icmp_eq dX5_readAct_40 (tgt := 47) rfl (fun c7 => ?_) (fun c7 => ?_)
      · refine X_iconst dX5_readAct_47 (by decide) ?_
        refine X_iload dX5_readAct_48 rfl ?_
        refine X_if_eq dX5_readAct_50 (tgt := 64) rfl (fun _ => ?_) (fun c => absurd (by decide) c)
        refine X_iconst dX5_readAct_64 (by decide) ?_
        refine X_goto dX5_readAct_65 (tgt := 69) rfl ?_
        refine X_invV (ci := 5) (as := [vi 0, vi 1]) (st := []) okX5_acceptNew dX5_readAct_69 km_RX5_94 rfl rfl (Nat.le_of_ble_eq_true rfl) rfl rfl ((hc5.1 c6).2.2.2.1 c7).1 (CT.imp ((hc5.1 c6).2.2.2.1 c7).2 (fun z8 S8 V8 mc8 ms8 hc9 => ?_))
        refine X_if_ne dX5_readAct_72 (tgt := 77) rfl (fun c10 => ?_) (fun c10 => ?_)
        · refine X_iload dX5_readAct_77 rfl ?_
          refine X_if_eq dX5_readAct_79 (tgt := 113) rfl (fun _ => ?_) (fun c => absurd (by decide) c)
          refine X_aload_n dX5_readAct_113 rfl ?_
          refine X_iload_n dX5_readAct_114 rfl ?_
          refine X_aload_n dX5_readAct_115 rfl ?_
          refine X_getfield (ci := 5) (k := 1) (v := vr (V8 x0 1)) dX5_readAct_116 rfl (by decide) kf_RX5_14 rfl (hc9.1 c10).1 ?_
          refine X_getfield (ci := 1) (k := 2) (v := vi (V8 (V8 x0 1) 2)) dX5_readAct_119 rfl (by decide) kf_RX5_35 rfl (hc9.1 c10).2.1 ?_
          refine X_iastore dX5_readAct_122 (hc9.1 c10).2.2.1 (hc9.1 c10).2.2.2.1 (hc9.1 c10).2.2.2.2.1 ?_
          refine X_aload_n dX5_readAct_123 rfl ?_
          refine X_iload_n dX5_readAct_124 rfl ?_
          refine X_putfield (ci := 5) (k := 5) (z := x2) dX5_readAct_125 rfl (by decide) kf_RX5_141 (Or.inl rfl) (Or.inl rfl) rfl (fun hv => hv) (hc9.1 c10).1 ?_
          refine X_aload_n dX5_readAct_128 rfl ?_
          refine X_bipush dX5_readAct_129 (by decide) (by decide) ?_
          refine X_invV (ci := 5) (as := [vi 61]) (st := []) okX5_accept dX5_readAct_131 km_RX5_117 rfl rfl (Nat.le_of_ble_eq_true rfl) rfl rfl (hc9.1 c10).1 (CT.imp (hc9.1 c10).2.2.2.2.2 (fun z11 S11 V11 mc11 ms11 hc12 => ?_))
          refine X_if_eq dX5_readAct_134 (tgt := 158) rfl (fun c13 => ?_) (fun c13 => ?_)
          · refine X_iconst dX5_readAct_158 (by decide) ?_
            exact X_ret (z := 0) dX5_readAct_159 rfl (fun _ => Or.inl rfl) (hc12.1 c13)
          · refine X_aload_n dX5_readAct_137 rfl ?_
            refine X_iconst dX5_readAct_138 (by decide) ?_
            refine X_invV (ci := 5) (as := [vi 0]) (st := []) okX5_readSum dX5_readAct_139 km_RX5_144 rfl rfl (Nat.le_of_ble_eq_true rfl) rfl rfl (hc12.2 c13).1 (CT.imp (hc12.2 c13).2 (fun z14 S14 V14 mc14 ms14 hc15 => ?_))
            refine X_if_eq dX5_readAct_142 (tgt := 158) rfl (fun c16 => ?_) (fun c16 => ?_)
            · refine X_iconst dX5_readAct_158 (by decide) ?_
              exact X_ret (z := 0) dX5_readAct_159 rfl (fun _ => Or.inl rfl) (hc15.1 c16)
            · refine X_aload_n dX5_readAct_145 rfl ?_
              refine X_bipush dX5_readAct_146 (by decide) (by decide) ?_
              refine X_invV (ci := 5) (as := [vi 59]) (st := []) okX5_accept dX5_readAct_148 km_RX5_117 rfl rfl (Nat.le_of_ble_eq_true rfl) rfl rfl (hc15.2 c16).1 (CT.imp (hc15.2 c16).2 (fun z17 S17 V17 mc17 ms17 hc18 => ?_))
              refine X_if_eq dX5_readAct_151 (tgt := 158) rfl (fun c19 => ?_) (fun c19 => ?_)
              · refine X_iconst dX5_readAct_158 (by decide) ?_
                exact X_ret (z := 0) dX5_readAct_159 rfl (fun _ => Or.inl rfl) (hc18.1 c19)
              · refine X_iconst dX5_readAct_154 (by decide) ?_
                refine X_goto dX5_readAct_155 (tgt := 159) rfl ?_
                exact X_ret (z := 1) dX5_readAct_159 rfl (fun _ => Or.inr rfl) (hc18.2 c19)
        · refine X_iconst dX5_readAct_75 (by decide) ?_
          exact X_ret (z := 0) dX5_readAct_76 rfl (fun _ => Or.inl rfl) (hc9.2 c10)
      · refine X_iconst dX5_readAct_43 (by decide) ?_
        refine X_goto dX5_readAct_44 (tgt := 48) rfl ?_
        refine X_iload dX5_readAct_48 rfl ?_
        refine X_if_eq dX5_readAct_50 (tgt := 64) rfl (fun _ => ?_) (fun c => absurd (by decide) c)
        refine X_iconst dX5_readAct_64 (by decide) ?_
        refine X_goto dX5_readAct_65 (tgt := 69) rfl ?_
        refine X_invV (ci := 5) (as := [vi 1, vi 1]) (st := []) okX5_acceptNew dX5_readAct_69 km_RX5_94 rfl rfl (Nat.le_of_ble_eq_true rfl) rfl rfl ((hc5.1 c6).2.2.2.2 c7).1 (CT.imp ((hc5.1 c6).2.2.2.2 c7).2 (fun z20 S20 V20 mc20 ms20 hc21 => ?_))
        refine X_if_ne dX5_readAct_72 (tgt := 77) rfl (fun c22 => ?_) (fun c22 => ?_)
        · refine X_iload dX5_readAct_77 rfl ?_
          refine X_if_eq dX5_readAct_79 (tgt := 113) rfl (fun _ => ?_) (fun c => absurd (by decide) c)
          refine X_aload_n dX5_readAct_113 rfl ?_
          refine X_iload_n dX5_readAct_114 rfl ?_
          refine X_aload_n dX5_readAct_115 rfl ?_
          refine X_getfield (ci := 5) (k := 1) (v := vr (V20 x0 1)) dX5_readAct_116 rfl (by decide) kf_RX5_14 rfl (hc21.1 c22).1 ?_
          refine X_getfield (ci := 1) (k := 2) (v := vi (V20 (V20 x0 1) 2)) dX5_readAct_119 rfl (by decide) kf_RX5_35 rfl (hc21.1 c22).2.1 ?_
          refine X_iastore dX5_readAct_122 (hc21.1 c22).2.2.1 (hc21.1 c22).2.2.2.1 (hc21.1 c22).2.2.2.2.1 ?_
          refine X_aload_n dX5_readAct_123 rfl ?_
          refine X_iload_n dX5_readAct_124 rfl ?_
          refine X_putfield (ci := 5) (k := 5) (z := x2) dX5_readAct_125 rfl (by decide) kf_RX5_141 (Or.inl rfl) (Or.inl rfl) rfl (fun hv => hv) (hc21.1 c22).1 ?_
          refine X_aload_n dX5_readAct_128 rfl ?_
          refine X_bipush dX5_readAct_129 (by decide) (by decide) ?_
          refine X_invV (ci := 5) (as := [vi 61]) (st := []) okX5_accept dX5_readAct_131 km_RX5_117 rfl rfl (Nat.le_of_ble_eq_true rfl) rfl rfl (hc21.1 c22).1 (CT.imp (hc21.1 c22).2.2.2.2.2 (fun z23 S23 V23 mc23 ms23 hc24 => ?_))
          refine X_if_eq dX5_readAct_134 (tgt := 158) rfl (fun c25 => ?_) (fun c25 => ?_)
          · refine X_iconst dX5_readAct_158 (by decide) ?_
            exact X_ret (z := 0) dX5_readAct_159 rfl (fun _ => Or.inl rfl) (hc24.1 c25)
          · refine X_aload_n dX5_readAct_137 rfl ?_
            refine X_iconst dX5_readAct_138 (by decide) ?_
            refine X_invV (ci := 5) (as := [vi 0]) (st := []) okX5_readSum dX5_readAct_139 km_RX5_144 rfl rfl (Nat.le_of_ble_eq_true rfl) rfl rfl (hc24.2 c25).1 (CT.imp (hc24.2 c25).2 (fun z26 S26 V26 mc26 ms26 hc27 => ?_))
            refine X_if_eq dX5_readAct_142 (tgt := 158) rfl (fun c28 => ?_) (fun c28 => ?_)
            · refine X_iconst dX5_readAct_158 (by decide) ?_
              exact X_ret (z := 0) dX5_readAct_159 rfl (fun _ => Or.inl rfl) (hc27.1 c28)
            · refine X_aload_n dX5_readAct_145 rfl ?_
              refine X_bipush dX5_readAct_146 (by decide) (by decide) ?_
              refine X_invV (ci := 5) (as := [vi 59]) (st := []) okX5_accept dX5_readAct_148 km_RX5_117 rfl rfl (Nat.le_of_ble_eq_true rfl) rfl rfl (hc27.2 c28).1 (CT.imp (hc27.2 c28).2 (fun z29 S29 V29 mc29 ms29 hc30 => ?_))
              refine X_if_eq dX5_readAct_151 (tgt := 158) rfl (fun c31 => ?_) (fun c31 => ?_)
              · refine X_iconst dX5_readAct_158 (by decide) ?_
                exact X_ret (z := 0) dX5_readAct_159 rfl (fun _ => Or.inl rfl) (hc30.1 c31)
              · refine X_iconst dX5_readAct_154 (by decide) ?_
                refine X_goto dX5_readAct_155 (tgt := 159) rfl ?_
                exact X_ret (z := 1) dX5_readAct_159 rfl (fun _ => Or.inr rfl) (hc30.2 c31)
        · refine X_iconst dX5_readAct_75 (by decide) ?_
          exact X_ret (z := 0) dX5_readAct_76 rfl (fun _ => Or.inl rfl) (hc21.2 c22)
    · refine X_iconst dX5_readAct_23 (by decide) ?_
      refine X_goto dX5_readAct_24 (tgt := 28) rfl ?_
      refine X_istore dX5_readAct_28 (by decide) rfl ?_
      refine X_aload_n dX5_readAct_30 rfl ?_
      refine X_iload dX5_readAct_31 rfl ?_
      refine X_if_ne dX5_readAct_33 (tgt := 47) rfl (fun _ => ?_) (fun c => absurd (by decide) c)
      refine X_iconst dX5_readAct_47 (by decide) ?_
      refine X_iload dX5_readAct_48 rfl ?_
      refine X_if_eq dX5_readAct_50 (tgt := 64) rfl (fun c => absurd c (by decide)) (fun _ => ?_)
      refine X_aload_n dX5_readAct_53 rfl ?_
      refine X_getfield (ci := 5) (k := 3) (v := vr (V4 x0 3)) dX5_readAct_54 rfl (by decide) kf_RX5_41 rfl (hc5.2 c6).1 ?_
      refine X_getfield (ci := 0) (k := 2) (v := vi (V4 (V4 x0 3) 2)) dX5_readAct_57 rfl (by decide) kf_RX5_157 rfl (hc5.2 c6).2.1 ?_
      refine X_iconst dX5_readAct_60 (by decide) ?_
      refine X_icmp_ge dX5_readAct_61 (tgt := 68) rfl (fun c32 => ?_) (fun c32 => ?_)
      · refine X_iconst dX5_readAct_68 (by decide) ?_
        refine X_invV (ci := 5) (as := [vi 0, vi 0]) (st := []) okX5_acceptNew dX5_readAct_69 km_RX5_94 rfl rfl (Nat.le_of_ble_eq_true rfl) rfl rfl (hc5.2 c6).1 (CT.imp ((hc5.2 c6).2.2.1 c32) (fun z33 S33 V33 mc33 ms33 hc34 => ?_))
        refine X_if_ne dX5_readAct_72 (tgt := 77) rfl (fun c35 => ?_) (fun c35 => ?_)
        · refine X_iload dX5_readAct_77 rfl ?_
          refine X_if_eq dX5_readAct_79 (tgt := 113) rfl (fun c => absurd c (by decide)) (fun _ => ?_)
          refine X_aload_n dX5_readAct_82 rfl ?_
          refine X_getfield (ci := 5) (k := 3) (v := vr (V33 x0 3)) dX5_readAct_83 rfl (by decide) kf_RX5_41 rfl (hc34.1 c35).1 ?_
          refine X_getfield (ci := 0) (k := 2) (v := vi (V33 (V33 x0 3) 2)) dX5_readAct_86 rfl (by decide) kf_RX5_157 rfl (hc34.1 c35).2.1 ?_
          refine X_istore_n dX5_readAct_89 (by decide) rfl ?_
          refine X_aload_n dX5_readAct_90 rfl ?_
          refine X_getfield (ci := 5) (k := 2) (v := vr (V33 x0 2)) dX5_readAct_91 rfl (by decide) kf_RX5_20 rfl (hc34.1 c35).1 ?_
          refine X_iload_n dX5_readAct_94 rfl ?_
          refine X_aload_n dX5_readAct_95 rfl ?_
          refine X_getfield (ci := 5) (k := 9) (v := vl (V33 x0 9)) dX5_readAct_96 rfl (by decide) kf_RX5_100 rfl (hc34.1 c35).1 ?_
          refine X_lastore dX5_readAct_99 (hc34.1 c35).2.2.1 (hc34.1 c35).2.2.2.1 (hc34.1 c35).2.2.2.2.1 ?_
          refine X_aload_n dX5_readAct_100 rfl ?_
          refine X_getfield (ci := 5) (k := 3) (v := vr (V33 x0 3)) dX5_readAct_101 rfl (by decide) kf_RX5_41 (congrArg vr (up_ne (Or.inl (tag_ne (hc34.1 c35).1 (hc34.1 c35).2.2.1 (by decide))))) (hc34.1 c35).1 ?_
          refine X_dup dX5_readAct_104 (rv_cat _) ?_
          refine X_getfield (ci := 0) (k := 2) (v := vi (V33 (V33 x0 3) 2)) dX5_readAct_105 rfl (by decide) kf_RX5_157 (congrArg vi (up_ne (Or.inl (tag_ne (hc34.1 c35).2.1 (hc34.1 c35).2.2.1 (by decide))))) (hc34.1 c35).2.1 ?_
          refine X_iconst dX5_readAct_108 (by decide) ?_
          refine X_iaddN dX5_readAct_109 (hc34.1 c35).2.2.2.2.2.1 (hc34.1 c35).2.2.2.2.2.2.1 ?_
          refine X_putfield (ci := 0) (k := 2) (z := ((V33 (V33 x0 3) 2) + 1)) dX5_readAct_110 rfl (by decide) kf_RX5_157 (Or.inl rfl) (Or.inl rfl) rfl (fun hv => hv) (hc34.1 c35).2.1 ?_
          refine X_aload_n dX5_readAct_113 rfl ?_
          refine X_iload_n dX5_readAct_114 rfl ?_
          refine X_aload_n dX5_readAct_115 rfl ?_
          refine X_getfield (ci := 5) (k := 1) (v := vr (V33 x0 1)) dX5_readAct_116 rfl (by decide) kf_RX5_14 (congrArg vr ((up_ne (Or.inl (tag_ne (hc34.1 c35).1 (hc34.1 c35).2.1 (by decide)))).trans (up_ne (Or.inl (tag_ne (hc34.1 c35).1 (hc34.1 c35).2.2.1 (by decide)))))) (hc34.1 c35).1 ?_
          refine X_getfield (ci := 1) (k := 2) (v := vi (V33 (V33 x0 1) 2)) dX5_readAct_119 rfl (by decide) kf_RX5_35 (congrArg vi ((up_ne (Or.inl (tag_ne (hc34.1 c35).2.2.2.2.2.2.2.1 (hc34.1 c35).2.1 (by decide)))).trans (up_ne (Or.inl (tag_ne (hc34.1 c35).2.2.2.2.2.2.2.1 (hc34.1 c35).2.2.1 (by decide)))))) (hc34.1 c35).2.2.2.2.2.2.2.1 ?_
          refine X_iastore dX5_readAct_122 (hc34.1 c35).2.2.2.2.2.2.2.2.1 (hc34.1 c35).2.2.2.1 (hc34.1 c35).2.2.2.2.2.2.2.2.2.1 ?_
          refine X_aload_n dX5_readAct_123 rfl ?_
          refine X_iload_n dX5_readAct_124 rfl ?_
          refine X_putfield (ci := 5) (k := 5) (z := x2) dX5_readAct_125 rfl (by decide) kf_RX5_141 (Or.inl rfl) (Or.inl rfl) rfl (fun hv => hv) (hc34.1 c35).1 ?_
          refine X_aload_n dX5_readAct_128 rfl ?_
          refine X_bipush dX5_readAct_129 (by decide) (by decide) ?_
          refine X_invV (ci := 5) (as := [vi 61]) (st := []) okX5_accept dX5_readAct_131 km_RX5_117 rfl rfl (Nat.le_of_ble_eq_true rfl) rfl rfl (hc34.1 c35).1 (CT.imp (hc34.1 c35).2.2.2.2.2.2.2.2.2.2 (fun z36 S36 V36 mc36 ms36 hc37 => ?_))
          refine X_if_eq dX5_readAct_134 (tgt := 158) rfl (fun c38 => ?_) (fun c38 => ?_)
          · refine X_iconst dX5_readAct_158 (by decide) ?_
            exact X_ret (z := 0) dX5_readAct_159 rfl (fun _ => Or.inl rfl) (hc37.1 c38)
          · refine X_aload_n dX5_readAct_137 rfl ?_
            refine X_iconst dX5_readAct_138 (by decide) ?_
            refine X_invV (ci := 5) (as := [vi 0]) (st := []) okX5_readSum dX5_readAct_139 km_RX5_144 rfl rfl (Nat.le_of_ble_eq_true rfl) rfl rfl (hc37.2 c38).1 (CT.imp (hc37.2 c38).2 (fun z39 S39 V39 mc39 ms39 hc40 => ?_))
            refine X_if_eq dX5_readAct_142 (tgt := 158) rfl (fun c41 => ?_) (fun c41 => ?_)
            · refine X_iconst dX5_readAct_158 (by decide) ?_
              exact X_ret (z := 0) dX5_readAct_159 rfl (fun _ => Or.inl rfl) (hc40.1 c41)
            · refine X_aload_n dX5_readAct_145 rfl ?_
              refine X_bipush dX5_readAct_146 (by decide) (by decide) ?_
              refine X_invV (ci := 5) (as := [vi 59]) (st := []) okX5_accept dX5_readAct_148 km_RX5_117 rfl rfl (Nat.le_of_ble_eq_true rfl) rfl rfl (hc40.2 c41).1 (CT.imp (hc40.2 c41).2 (fun z42 S42 V42 mc42 ms42 hc43 => ?_))
              refine X_if_eq dX5_readAct_151 (tgt := 158) rfl (fun c44 => ?_) (fun c44 => ?_)
              · refine X_iconst dX5_readAct_158 (by decide) ?_
                exact X_ret (z := 0) dX5_readAct_159 rfl (fun _ => Or.inl rfl) (hc43.1 c44)
              · refine X_iconst dX5_readAct_154 (by decide) ?_
                refine X_goto dX5_readAct_155 (tgt := 159) rfl ?_
                exact X_ret (z := 1) dX5_readAct_159 rfl (fun _ => Or.inr rfl) (hc43.2 c44)
        · refine X_iconst dX5_readAct_75 (by decide) ?_
          exact X_ret (z := 0) dX5_readAct_76 rfl (fun _ => Or.inl rfl) (hc34.2 c35)
      · refine X_iconst dX5_readAct_64 (by decide) ?_
        refine X_goto dX5_readAct_65 (tgt := 69) rfl ?_
        refine X_invV (ci := 5) (as := [vi 0, vi 1]) (st := []) okX5_acceptNew dX5_readAct_69 km_RX5_94 rfl rfl (Nat.le_of_ble_eq_true rfl) rfl rfl (hc5.2 c6).1 (CT.imp ((hc5.2 c6).2.2.2 c32) (fun z45 S45 V45 mc45 ms45 hc46 => ?_))
        refine X_if_ne dX5_readAct_72 (tgt := 77) rfl (fun c47 => ?_) (fun c47 => ?_)
        · refine X_iload dX5_readAct_77 rfl ?_
          refine X_if_eq dX5_readAct_79 (tgt := 113) rfl (fun c => absurd c (by decide)) (fun _ => ?_)
          refine X_aload_n dX5_readAct_82 rfl ?_
          refine X_getfield (ci := 5) (k := 3) (v := vr (V45 x0 3)) dX5_readAct_83 rfl (by decide) kf_RX5_41 rfl (hc46.1 c47).1 ?_
          refine X_getfield (ci := 0) (k := 2) (v := vi (V45 (V45 x0 3) 2)) dX5_readAct_86 rfl (by decide) kf_RX5_157 rfl (hc46.1 c47).2.1 ?_
          refine X_istore_n dX5_readAct_89 (by decide) rfl ?_
          refine X_aload_n dX5_readAct_90 rfl ?_
          refine X_getfield (ci := 5) (k := 2) (v := vr (V45 x0 2)) dX5_readAct_91 rfl (by decide) kf_RX5_20 rfl (hc46.1 c47).1 ?_
          refine X_iload_n dX5_readAct_94 rfl ?_
          refine X_aload_n dX5_readAct_95 rfl ?_
          refine X_getfield (ci := 5) (k := 9) (v := vl (V45 x0 9)) dX5_readAct_96 rfl (by decide) kf_RX5_100 rfl (hc46.1 c47).1 ?_
          refine X_lastore dX5_readAct_99 (hc46.1 c47).2.2.1 (hc46.1 c47).2.2.2.1 (hc46.1 c47).2.2.2.2.1 ?_
          refine X_aload_n dX5_readAct_100 rfl ?_
          refine X_getfield (ci := 5) (k := 3) (v := vr (V45 x0 3)) dX5_readAct_101 rfl (by decide) kf_RX5_41 (congrArg vr (up_ne (Or.inl (tag_ne (hc46.1 c47).1 (hc46.1 c47).2.2.1 (by decide))))) (hc46.1 c47).1 ?_
          refine X_dup dX5_readAct_104 (rv_cat _) ?_
          refine X_getfield (ci := 0) (k := 2) (v := vi (V45 (V45 x0 3) 2)) dX5_readAct_105 rfl (by decide) kf_RX5_157 (congrArg vi (up_ne (Or.inl (tag_ne (hc46.1 c47).2.1 (hc46.1 c47).2.2.1 (by decide))))) (hc46.1 c47).2.1 ?_
          refine X_iconst dX5_readAct_108 (by decide) ?_
          refine X_iaddN dX5_readAct_109 (hc46.1 c47).2.2.2.2.2.1 (hc46.1 c47).2.2.2.2.2.2.1 ?_
          refine X_putfield (ci := 0) (k := 2) (z := ((V45 (V45 x0 3) 2) + 1)) dX5_readAct_110 rfl (by decide) kf_RX5_157 (Or.inl rfl) (Or.inl rfl) rfl (fun hv => hv) (hc46.1 c47).2.1 ?_
          refine X_aload_n dX5_readAct_113 rfl ?_
          refine X_iload_n dX5_readAct_114 rfl ?_
          refine X_aload_n dX5_readAct_115 rfl ?_
          refine X_getfield (ci := 5) (k := 1) (v := vr (V45 x0 1)) dX5_readAct_116 rfl (by decide) kf_RX5_14 (congrArg vr ((up_ne (Or.inl (tag_ne (hc46.1 c47).1 (hc46.1 c47).2.1 (by decide)))).trans (up_ne (Or.inl (tag_ne (hc46.1 c47).1 (hc46.1 c47).2.2.1 (by decide)))))) (hc46.1 c47).1 ?_
          refine X_getfield (ci := 1) (k := 2) (v := vi (V45 (V45 x0 1) 2)) dX5_readAct_119 rfl (by decide) kf_RX5_35 (congrArg vi ((up_ne (Or.inl (tag_ne (hc46.1 c47).2.2.2.2.2.2.2.1 (hc46.1 c47).2.1 (by decide)))).trans (up_ne (Or.inl (tag_ne (hc46.1 c47).2.2.2.2.2.2.2.1 (hc46.1 c47).2.2.1 (by decide)))))) (hc46.1 c47).2.2.2.2.2.2.2.1 ?_
          refine X_iastore dX5_readAct_122 (hc46.1 c47).2.2.2.2.2.2.2.2.1 (hc46.1 c47).2.2.2.1 (hc46.1 c47).2.2.2.2.2.2.2.2.2.1 ?_
          refine X_aload_n dX5_readAct_123 rfl ?_
          refine X_iload_n dX5_readAct_124 rfl ?_
          refine X_putfield (ci := 5) (k := 5) (z := x2) dX5_readAct_125 rfl (by decide) kf_RX5_141 (Or.inl rfl) (Or.inl rfl) rfl (fun hv => hv) (hc46.1 c47).1 ?_
          refine X_aload_n dX5_readAct_128 rfl ?_
          refine X_bipush dX5_readAct_129 (by decide) (by decide) ?_
          refine X_invV (ci := 5) (as := [vi 61]) (st := []) okX5_accept dX5_readAct_131 km_RX5_117 rfl rfl (Nat.le_of_ble_eq_true rfl) rfl rfl (hc46.1 c47).1 (CT.imp (hc46.1 c47).2.2.2.2.2.2.2.2.2.2 (fun z48 S48 V48 mc48 ms48 hc49 => ?_))
          refine X_if_eq dX5_readAct_134 (tgt := 158) rfl (fun c50 => ?_) (fun c50 => ?_)
          · refine X_iconst dX5_readAct_158 (by decide) ?_
            exact X_ret (z := 0) dX5_readAct_159 rfl (fun _ => Or.inl rfl) (hc49.1 c50)
          · refine X_aload_n dX5_readAct_137 rfl ?_
            refine X_iconst dX5_readAct_138 (by decide) ?_
            refine X_invV (ci := 5) (as := [vi 0]) (st := []) okX5_readSum dX5_readAct_139 km_RX5_144 rfl rfl (Nat.le_of_ble_eq_true rfl) rfl rfl (hc49.2 c50).1 (CT.imp (hc49.2 c50).2 (fun z51 S51 V51 mc51 ms51 hc52 => ?_))
            refine X_if_eq dX5_readAct_142 (tgt := 158) rfl (fun c53 => ?_) (fun c53 => ?_)
            · refine X_iconst dX5_readAct_158 (by decide) ?_
              exact X_ret (z := 0) dX5_readAct_159 rfl (fun _ => Or.inl rfl) (hc52.1 c53)
            · refine X_aload_n dX5_readAct_145 rfl ?_
              refine X_bipush dX5_readAct_146 (by decide) (by decide) ?_
              refine X_invV (ci := 5) (as := [vi 59]) (st := []) okX5_accept dX5_readAct_148 km_RX5_117 rfl rfl (Nat.le_of_ble_eq_true rfl) rfl rfl (hc52.2 c53).1 (CT.imp (hc52.2 c53).2 (fun z54 S54 V54 mc54 ms54 hc55 => ?_))
              refine X_if_eq dX5_readAct_151 (tgt := 158) rfl (fun c56 => ?_) (fun c56 => ?_)
              · refine X_iconst dX5_readAct_158 (by decide) ?_
                exact X_ret (z := 0) dX5_readAct_159 rfl (fun _ => Or.inl rfl) (hc55.1 c56)
              · refine X_iconst dX5_readAct_154 (by decide) ?_
                refine X_goto dX5_readAct_155 (tgt := 159) rfl ?_
                exact X_ret (z := 1) dX5_readAct_159 rfl (fun _ => Or.inr rfl) (hc55.2 c56)
        · refine X_iconst dX5_readAct_75 (by decide) ?_
          exact X_ret (z := 0) dX5_readAct_76 rfl (fun _ => Or.inl rfl) (hc46.2 c47)
  · refine X_iconst dX5_readAct_8 (by decide) ?_
    exact X_ret (z := 0) dX5_readAct_9 rfl (fun _ => Or.inl rfl) (hc2.2 c3)
theorem qX5_readAct {l : Launch} {G : GT} {Q : Int → Sh → Mem → Prop} {d : Nat} {S : Sh} {V : Mem} {mc ms : Nat} {x0 x1 x2 : Int} (h : 0 ≤ x0 → 0 ≤ x1 → inI x2 → XJ l G bX5_readAct Q d 0 [vr x0, vr x1, vi x2, vu, vu] [] S V mc ms) : Ct l G bX5_readAct Q d mc ms [vr x0, vr x1, vi x2] S V := Ct.of okX5_readAct.1 trivial (Nat.le_of_ble_eq_true rfl) (fun hv => h (hv _ (List.mem_of_getElem? (i := 0) rfl)) (hv _ (List.mem_of_getElem? (i := 1) rfl)) (hv _ (List.mem_of_getElem? (i := 2) rfl)))
set_option maxRecDepth 10000 in
theorem vX5_findAct_0 {l : Launch} {G : GT} {Q : Int → Sh → Mem → Prop} {d : Nat} {S : Sh} {V : Mem} {mc ms : Nat} {x0 x1 : Int} (h : XJ l G bX5_findAct Q d 2 [vr x0, vl x1, vu, vi 0] [] S V mc ms) : XJ l G bX5_findAct Q d 0 [vr x0, vl x1, vu, vu] [] S V mc ms := by
  refine X_iconst dX5_findAct_0 (by decide) ?_
  refine X_istore_n dX5_findAct_1 (by decide) rfl ?_
  exact h
set_option maxRecDepth 10000 in
theorem vX5_findAct_2 {l : Launch} {G : GT} {Q : Int → Sh → Mem → Prop} {d : Nat} {S : Sh} {V : Mem} {mc ms : Nat} {x0 x1 x3 : Int} (h : S.1 x0 = 6 ∧ S.1 (V x0 3) = 1 ∧ ((V (V x0 3) 2) ≤ x3 → Q (-1) S V) ∧ (¬ ((V (V x0 3) 2) ≤ x3) → S.1 (V x0 2) = 22 ∧ 0 ≤ x3 ∧ x3 < S.2.1 (V x0 2) ∧ ((V (V x0 2) x3) ≠ x1 → -2147483648 ≤ x3 + 1 ∧ x3 + 1 ≤ 2147483647 ∧ XJ l G bX5_findAct Q d 2 [vr x0, vl x1, vu, vi (x3 + 1)] [] S V mc ms) ∧ (¬ ((V (V x0 2) x3) ≠ x1) → Q x3 S V))) : XJ l G bX5_findAct Q d 2 [vr x0, vl x1, vu, vi x3] [] S V mc ms := by
  refine X_iload_n dX5_findAct_2 rfl ?_
  refine X_aload_n dX5_findAct_3 rfl ?_
  refine X_getfield (ci := 5) (k := 3) (v := vr (V x0 3)) dX5_findAct_4 rfl (by decide) kf_RX5_41 rfl h.1 ?_
  refine X_getfield (ci := 0) (k := 2) (v := vi (V (V x0 3) 2)) dX5_findAct_7 rfl (by decide) kf_RX5_157 rfl h.2.1 ?_
  refine X_icmp_ge dX5_findAct_10 (tgt := 32) rfl (fun c1 => ?_) (fun c1 => ?_)
  · refine X_iconst dX5_findAct_32 (by decide) ?_
    exact X_ret (z := (-1)) dX5_findAct_33 rfl (fun hv => vok_h hv) (h.2.2.1 c1)
  · refine X_aload_n dX5_findAct_13 rfl ?_
    refine X_getfield (ci := 5) (k := 2) (v := vr (V x0 2)) dX5_findAct_14 rfl (by decide) kf_RX5_20 rfl h.1 ?_
    refine X_iload_n dX5_findAct_17 rfl ?_
    refine X_laload dX5_findAct_18 (h.2.2.2 c1).1 (h.2.2.2 c1).2.1 (h.2.2.2 c1).2.2.1 ?_
    refine X_lload_n dX5_findAct_19 rfl ?_
    refine X_lc_ne dX5_findAct_20 dX5_findAct_21 (tgt := 26) rfl (fun c2 => ?_) (fun c2 => ?_)
    · refine X_iincN dX5_findAct_26 rfl (by decide) rfl (e := x3 + 1) rfl ((h.2.2.2 c1).2.2.2.1 c2).1 ((h.2.2.2 c1).2.2.2.1 c2).2.1 ?_
      refine X_goto dX5_findAct_29 (tgt := 2) rfl ?_
      exact ((h.2.2.2 c1).2.2.2.1 c2).2.2
    · refine X_iload_n dX5_findAct_24 rfl ?_
      exact X_ret (z := x3) dX5_findAct_25 rfl (fun hv => vok_h hv) ((h.2.2.2 c1).2.2.2.2 c2)
theorem qX5_findAct {l : Launch} {G : GT} {Q : Int → Sh → Mem → Prop} {d : Nat} {S : Sh} {V : Mem} {mc ms : Nat} {x0 x1 : Int} (h : 0 ≤ x0 → inL x1 → XJ l G bX5_findAct Q d 0 [vr x0, vl x1, vu, vu] [] S V mc ms) : Ct l G bX5_findAct Q d mc ms [vr x0, vl x1] S V := Ct.of okX5_findAct.1 trivial (Nat.le_of_ble_eq_true rfl) (fun hv => h (hv _ (List.mem_of_getElem? (i := 0) rfl)) (hv _ (List.mem_of_getElem? (i := 1) rfl)))
set_option maxRecDepth 10000 in
theorem vX5_readMembers_0 {l : Launch} {G : GT} {Q : Int → Sh → Mem → Prop} {d : Nat} {S : Sh} {V : Mem} {mc ms : Nat} {x0 : Int} (h : XJ l G bX5_readMembers Q d 4 [vr x0, vi 1, vi 0] [] S V mc ms) : XJ l G bX5_readMembers Q d 0 [vr x0, vu, vu] [] S V mc ms := by
  refine X_iconst dX5_readMembers_0 (by decide) ?_
  refine X_istore_n dX5_readMembers_1 (by decide) rfl ?_
  refine X_iconst dX5_readMembers_2 (by decide) ?_
  refine X_istore_n dX5_readMembers_3 (by decide) rfl ?_
  exact h
set_option maxRecDepth 10000 in
theorem vX5_readMembers_4 {l : Launch} {G : GT} {Q : Int → Sh → Mem → Prop} {d : Nat} {S : Sh} {V : Mem} {mc ms : Nat} {x0 x1 x2 : Int} (h : (3000 ≤ x2 → S.1 x0 = 6 ∧ S.1 (V x0 1) = 2 ∧ S.1 (V x0 4) = 4 ∧ (x1 = 0 → Q 0 S (up V (V x0 4) 2 (V (V x0 1) 2))) ∧ (¬ (x1 = 0) → CT l G bX5_accept d mc ms [vr x0, vi 125] S (up V (V x0 4) 2 (V (V x0 1) 2)) (fun z3 S3 V3 mc3 ms3 => (z3 = 0 → Q 0 S3 V3) ∧ (¬ (z3 = 0) → Q 1 S3 V3)))) ∧ (¬ (3000 ≤ x2) → (x1 = 0 → S.1 x0 = 6 ∧ S.1 (V x0 1) = 2 ∧ S.1 (V x0 4) = 4 ∧ (x1 = 0 → Q 0 S (up V (V x0 4) 2 (V (V x0 1) 2))) ∧ (¬ (x1 = 0) → CT l G bX5_accept d mc ms [vr x0, vi 125] S (up V (V x0 4) 2 (V (V x0 1) 2)) (fun z8 S8 V8 mc8 ms8 => (z8 = 0 → Q 0 S8 V8) ∧ (¬ (z8 = 0) → Q 1 S8 V8)))) ∧ (¬ (x1 = 0) → S.1 x0 = 6 ∧ ((V x0 7) = 125 → S.1 (V x0 1) = 2 ∧ S.1 (V x0 4) = 4 ∧ (x1 = 0 → Q 0 S (up V (V x0 4) 2 (V (V x0 1) 2))) ∧ (¬ (x1 = 0) → CT l G bX5_accept d mc ms [vr x0, vi 125] S (up V (V x0 4) 2 (V (V x0 1) 2)) (fun z13 S13 V13 mc13 ms13 => (z13 = 0 → Q 0 S13 V13) ∧ (¬ (z13 = 0) → Q 1 S13 V13)))) ∧ (¬ ((V x0 7) = 125) → ((V x0 7) = 5 → S.1 (V x0 4) = 4 ∧ CT l G bX5_readAct d mc ms [vr x0, vr (V (V x0 4) 6), vi 2] S (up V x0 5 0) (fun z17 S17 V17 mc17 ms17 => -2147483648 ≤ x2 + 1 ∧ x2 + 1 ≤ 2147483647 ∧ XJ l G bX5_readMembers Q d 4 [vr x0, vi z17, vi (x2 + 1)] [] S17 V17 mc17 ms17)) ∧ (¬ (V x0 7) = 5 → ((V x0 7) = 6 → CT l G bX5_readTable d mc ms [vr x0] S (up V x0 5 0) (fun z20 S20 V20 mc20 ms20 => -2147483648 ≤ x2 + 1 ∧ x2 + 1 ≤ 2147483647 ∧ XJ l G bX5_readMembers Q d 4 [vr x0, vi z20, vi (x2 + 1)] [] S20 V20 mc20 ms20)) ∧ (¬ (V x0 7) = 6 → ((V x0 7) = 7 → CT l G bX5_readCheck d mc ms [vr x0] S (up V x0 5 0) (fun z23 S23 V23 mc23 ms23 => -2147483648 ≤ x2 + 1 ∧ x2 + 1 ≤ 2147483647 ∧ XJ l G bX5_readMembers Q d 4 [vr x0, vi z23, vi (x2 + 1)] [] S23 V23 mc23 ms23)) ∧ (¬ (V x0 7) = 7 → ((V x0 7) = 8 → CT l G bX5_readHolder d mc ms [vr x0] S (up V x0 5 0) (fun z26 S26 V26 mc26 ms26 => -2147483648 ≤ x2 + 1 ∧ x2 + 1 ≤ 2147483647 ∧ XJ l G bX5_readMembers Q d 4 [vr x0, vi z26, vi (x2 + 1)] [] S26 V26 mc26 ms26)) ∧ (¬ (V x0 7) = 8 → ((V x0 7) = 9 → CT l G bX5_readSwitch d mc ms [vr x0] S (up V x0 5 0) (fun z29 S29 V29 mc29 ms29 => -2147483648 ≤ x2 + 1 ∧ x2 + 1 ≤ 2147483647 ∧ XJ l G bX5_readMembers Q d 4 [vr x0, vi z29, vi (x2 + 1)] [] S29 V29 mc29 ms29)) ∧ (¬ (V x0 7) = 9 → CT l G bX5_pass d mc ms [vr x0, vi 0, vi 2] S (up V x0 5 0) (fun z31 S31 V31 mc31 ms31 => -2147483648 ≤ x2 + 1 ∧ x2 + 1 ≤ 2147483647 ∧ XJ l G bX5_readMembers Q d 4 [vr x0, vi z31, vi (x2 + 1)] [] S31 V31 mc31 ms31)))))))))) : XJ l G bX5_readMembers Q d 4 [vr x0, vi x1, vi x2] [] S V mc ms := by
  refine X_iload_n dX5_readMembers_4 rfl ?_
  refine X_sipush dX5_readMembers_5 (by decide) (by decide) ?_
  refine X_icmp_ge dX5_readMembers_8 (tgt := 129) rfl (fun c1 => ?_) (fun c1 => ?_)
  · refine X_aload_n dX5_readMembers_129 rfl ?_
    refine X_getfield (ci := 5) (k := 4) (v := vr (V x0 4)) dX5_readMembers_130 rfl (by decide) kf_RX5_106 rfl (h.1 c1).1 ?_
    refine X_aload_n dX5_readMembers_133 rfl ?_
    refine X_getfield (ci := 5) (k := 1) (v := vr (V x0 1)) dX5_readMembers_134 rfl (by decide) kf_RX5_14 rfl (h.1 c1).1 ?_
    refine X_getfield (ci := 1) (k := 2) (v := vi (V (V x0 1) 2)) dX5_readMembers_137 rfl (by decide) kf_RX5_35 rfl (h.1 c1).2.1 ?_
    refine X_putfield (ci := 3) (k := 2) (z := (V (V x0 1) 2)) dX5_readMembers_140 rfl (by decide) kf_RX5_173 (Or.inl rfl) (Or.inl rfl) rfl (fun hv => hv) (h.1 c1).2.2.1 ?_
    refine X_iload_n dX5_readMembers_143 rfl ?_
    refine X_if_eq dX5_readMembers_144 (tgt := 160) rfl (fun c2 => ?_) (fun c2 => ?_)
    · refine X_iconst dX5_readMembers_160 (by decide) ?_
      exact X_ret (z := 0) dX5_readMembers_161 rfl (fun _ => Or.inl rfl) ((h.1 c1).2.2.2.1 c2)
    · refine X_aload_n dX5_readMembers_147 rfl ?_
      refine X_bipush dX5_readMembers_148 (by decide) (by decide) ?_
      refine X_invV (ci := 5) (as := [vi 125]) (st := []) okX5_accept dX5_readMembers_150 km_RX5_117 rfl rfl (Nat.le_of_ble_eq_true rfl) rfl rfl (h.1 c1).1 (CT.imp ((h.1 c1).2.2.2.2 c2) (fun z3 S3 V3 mc3 ms3 hc4 => ?_))
      refine X_if_eq dX5_readMembers_153 (tgt := 160) rfl (fun c5 => ?_) (fun c5 => ?_)
      · refine X_iconst dX5_readMembers_160 (by decide) ?_
        exact X_ret (z := 0) dX5_readMembers_161 rfl (fun _ => Or.inl rfl) (hc4.1 c5)
      · refine X_iconst dX5_readMembers_156 (by decide) ?_
        refine X_goto dX5_readMembers_157 (tgt := 161) rfl ?_
        exact X_ret (z := 1) dX5_readMembers_161 rfl (fun _ => Or.inr rfl) (hc4.2 c5)
  · refine X_iload_n dX5_readMembers_11 rfl ?_
    refine X_if_eq dX5_readMembers_12 (tgt := 129) rfl (fun c6 => ?_) (fun c6 => ?_)
    · refine X_aload_n dX5_readMembers_129 rfl ?_
      refine X_getfield (ci := 5) (k := 4) (v := vr (V x0 4)) dX5_readMembers_130 rfl (by decide) kf_RX5_106 rfl ((h.2 c1).1 c6).1 ?_
      refine X_aload_n dX5_readMembers_133 rfl ?_
      refine X_getfield (ci := 5) (k := 1) (v := vr (V x0 1)) dX5_readMembers_134 rfl (by decide) kf_RX5_14 rfl ((h.2 c1).1 c6).1 ?_
      refine X_getfield (ci := 1) (k := 2) (v := vi (V (V x0 1) 2)) dX5_readMembers_137 rfl (by decide) kf_RX5_35 rfl ((h.2 c1).1 c6).2.1 ?_
      refine X_putfield (ci := 3) (k := 2) (z := (V (V x0 1) 2)) dX5_readMembers_140 rfl (by decide) kf_RX5_173 (Or.inl rfl) (Or.inl rfl) rfl (fun hv => hv) ((h.2 c1).1 c6).2.2.1 ?_
      refine X_iload_n dX5_readMembers_143 rfl ?_
      refine X_if_eq dX5_readMembers_144 (tgt := 160) rfl (fun c7 => ?_) (fun c7 => ?_)
      · refine X_iconst dX5_readMembers_160 (by decide) ?_
        exact X_ret (z := 0) dX5_readMembers_161 rfl (fun _ => Or.inl rfl) (((h.2 c1).1 c6).2.2.2.1 c7)
      · refine X_aload_n dX5_readMembers_147 rfl ?_
        refine X_bipush dX5_readMembers_148 (by decide) (by decide) ?_
        refine X_invV (ci := 5) (as := [vi 125]) (st := []) okX5_accept dX5_readMembers_150 km_RX5_117 rfl rfl (Nat.le_of_ble_eq_true rfl) rfl rfl ((h.2 c1).1 c6).1 (CT.imp (((h.2 c1).1 c6).2.2.2.2 c7) (fun z8 S8 V8 mc8 ms8 hc9 => ?_))
        refine X_if_eq dX5_readMembers_153 (tgt := 160) rfl (fun c10 => ?_) (fun c10 => ?_)
        · refine X_iconst dX5_readMembers_160 (by decide) ?_
          exact X_ret (z := 0) dX5_readMembers_161 rfl (fun _ => Or.inl rfl) (hc9.1 c10)
        · refine X_iconst dX5_readMembers_156 (by decide) ?_
          refine X_goto dX5_readMembers_157 (tgt := 161) rfl ?_
          exact X_ret (z := 1) dX5_readMembers_161 rfl (fun _ => Or.inr rfl) (hc9.2 c10)
    · refine X_aload_n dX5_readMembers_15 rfl ?_
      refine X_getfield (ci := 5) (k := 7) (v := vi (V x0 7)) dX5_readMembers_16 rfl (by decide) kf_RX5_52 rfl ((h.2 c1).2 c6).1 ?_
      refine X_bipush dX5_readMembers_19 (by decide) (by decide) ?_
      refine X_icmp_eq dX5_readMembers_21 (tgt := 129) rfl (fun c11 => ?_) (fun c11 => ?_)
      · refine X_aload_n dX5_readMembers_129 rfl ?_
        refine X_getfield (ci := 5) (k := 4) (v := vr (V x0 4)) dX5_readMembers_130 rfl (by decide) kf_RX5_106 rfl ((h.2 c1).2 c6).1 ?_
        refine X_aload_n dX5_readMembers_133 rfl ?_
        refine X_getfield (ci := 5) (k := 1) (v := vr (V x0 1)) dX5_readMembers_134 rfl (by decide) kf_RX5_14 rfl ((h.2 c1).2 c6).1 ?_
        refine X_getfield (ci := 1) (k := 2) (v := vi (V (V x0 1) 2)) dX5_readMembers_137 rfl (by decide) kf_RX5_35 rfl (((h.2 c1).2 c6).2.1 c11).1 ?_
        refine X_putfield (ci := 3) (k := 2) (z := (V (V x0 1) 2)) dX5_readMembers_140 rfl (by decide) kf_RX5_173 (Or.inl rfl) (Or.inl rfl) rfl (fun hv => hv) (((h.2 c1).2 c6).2.1 c11).2.1 ?_
        refine X_iload_n dX5_readMembers_143 rfl ?_
        refine X_if_eq dX5_readMembers_144 (tgt := 160) rfl (fun c12 => ?_) (fun c12 => ?_)
        · refine X_iconst dX5_readMembers_160 (by decide) ?_
          exact X_ret (z := 0) dX5_readMembers_161 rfl (fun _ => Or.inl rfl) ((((h.2 c1).2 c6).2.1 c11).2.2.1 c12)
        · refine X_aload_n dX5_readMembers_147 rfl ?_
          refine X_bipush dX5_readMembers_148 (by decide) (by decide) ?_
          refine X_invV (ci := 5) (as := [vi 125]) (st := []) okX5_accept dX5_readMembers_150 km_RX5_117 rfl rfl (Nat.le_of_ble_eq_true rfl) rfl rfl ((h.2 c1).2 c6).1 (CT.imp ((((h.2 c1).2 c6).2.1 c11).2.2.2 c12) (fun z13 S13 V13 mc13 ms13 hc14 => ?_))
          refine X_if_eq dX5_readMembers_153 (tgt := 160) rfl (fun c15 => ?_) (fun c15 => ?_)
          · refine X_iconst dX5_readMembers_160 (by decide) ?_
            exact X_ret (z := 0) dX5_readMembers_161 rfl (fun _ => Or.inl rfl) (hc14.1 c15)
          · refine X_iconst dX5_readMembers_156 (by decide) ?_
            refine X_goto dX5_readMembers_157 (tgt := 161) rfl ?_
            exact X_ret (z := 1) dX5_readMembers_161 rfl (fun _ => Or.inr rfl) (hc14.2 c15)
      · refine X_aload_n dX5_readMembers_24 rfl ?_
        refine X_iconst dX5_readMembers_25 (by decide) ?_
        refine X_putfield (ci := 5) (k := 5) (z := 0) dX5_readMembers_26 rfl (by decide) kf_RX5_141 (Or.inl rfl) (Or.inl rfl) rfl (fun hv => hv) ((h.2 c1).2 c6).1 ?_
        refine X_aload_n dX5_readMembers_29 rfl ?_
        refine X_getfield (ci := 5) (k := 7) (v := vi (V x0 7)) dX5_readMembers_30 rfl (by decide) kf_RX5_52 (congrArg vi (up_ne (Or.inr (by decide)))) ((h.2 c1).2 c6).1 ?_
        by_cases c16 : (V x0 7) = 5
        · refine X_table dX5_readMembers_33 68 35 (by rw [c16]; rfl) rfl ?_
          refine X_aload_n dX5_readMembers_68 rfl ?_
          refine X_aload_n dX5_readMembers_69 rfl ?_
          refine X_getfield (ci := 5) (k := 4) (v := vr (V x0 4)) dX5_readMembers_70 rfl (by decide) kf_RX5_106 (congrArg vr (up_ne (Or.inr (by decide)))) ((h.2 c1).2 c6).1 ?_
          refine X_getfield (ci := 3) (k := 6) (v := vr (V (V x0 4) 6)) dX5_readMembers_73 rfl (by decide) kf_RX5_160 (congrArg vr (up_ne (Or.inl (tag_ne ((((h.2 c1).2 c6).2.2 c11).1 c16).1 ((h.2 c1).2 c6).1 (by decide))))) ((((h.2 c1).2 c6).2.2 c11).1 c16).1 ?_
          refine X_iconst dX5_readMembers_76 (by decide) ?_
          refine X_invV (ci := 5) (as := [vr (V (V x0 4) 6), vi 2]) (st := []) okX5_readAct dX5_readMembers_77 km_RX5_150 rfl rfl (Nat.le_of_ble_eq_true rfl) rfl rfl ((h.2 c1).2 c6).1 (CT.imp ((((h.2 c1).2 c6).2.2 c11).1 c16).2 (fun z17 S17 V17 mc17 ms17 hc18 => ?_))
          refine X_istore_n dX5_readMembers_80 (by decide) rfl ?_
          refine X_goto dX5_readMembers_81 (tgt := 123) rfl ?_
          refine X_iincN dX5_readMembers_123 rfl (by decide) rfl (e := x2 + 1) rfl hc18.1 hc18.2.1 ?_
          refine X_goto dX5_readMembers_126 (tgt := 4) rfl ?_
          exact hc18.2.2
        by_cases c19 : (V x0 7) = 6
        · refine X_table dX5_readMembers_33 84 51 (by rw [c19]; rfl) rfl ?_
          refine X_aload_n dX5_readMembers_84 rfl ?_
          refine X_invV (ci := 5) (as := []) (st := []) okX5_readTable dX5_readMembers_85 km_RX5_161 rfl rfl (Nat.le_of_ble_eq_true rfl) rfl rfl ((h.2 c1).2 c6).1 (CT.imp (((((h.2 c1).2 c6).2.2 c11).2 c16).1 c19) (fun z20 S20 V20 mc20 ms20 hc21 => ?_))
          refine X_istore_n dX5_readMembers_88 (by decide) rfl ?_
          refine X_goto dX5_readMembers_89 (tgt := 123) rfl ?_
          refine X_iincN dX5_readMembers_123 rfl (by decide) rfl (e := x2 + 1) rfl hc21.1 hc21.2.1 ?_
          refine X_goto dX5_readMembers_126 (tgt := 4) rfl ?_
          exact hc21.2.2
        by_cases c22 : (V x0 7) = 7
        · refine X_table dX5_readMembers_33 92 59 (by rw [c22]; rfl) rfl ?_
          refine X_aload_n dX5_readMembers_92 rfl ?_
          refine X_invV (ci := 5) (as := []) (st := []) okX5_readCheck dX5_readMembers_93 km_RX5_164 rfl rfl (Nat.le_of_ble_eq_true rfl) rfl rfl ((h.2 c1).2 c6).1 (CT.imp ((((((h.2 c1).2 c6).2.2 c11).2 c16).2 c19).1 c22) (fun z23 S23 V23 mc23 ms23 hc24 => ?_))
          refine X_istore_n dX5_readMembers_96 (by decide) rfl ?_
          refine X_goto dX5_readMembers_97 (tgt := 123) rfl ?_
          refine X_iincN dX5_readMembers_123 rfl (by decide) rfl (e := x2 + 1) rfl hc24.1 hc24.2.1 ?_
          refine X_goto dX5_readMembers_126 (tgt := 4) rfl ?_
          exact hc24.2.2
        by_cases c25 : (V x0 7) = 8
        · refine X_table dX5_readMembers_33 100 67 (by rw [c25]; rfl) rfl ?_
          refine X_aload_n dX5_readMembers_100 rfl ?_
          refine X_invV (ci := 5) (as := []) (st := []) okX5_readHolder dX5_readMembers_101 km_RX5_167 rfl rfl (Nat.le_of_ble_eq_true rfl) rfl rfl ((h.2 c1).2 c6).1 (CT.imp (((((((h.2 c1).2 c6).2.2 c11).2 c16).2 c19).2 c22).1 c25) (fun z26 S26 V26 mc26 ms26 hc27 => ?_))
          refine X_istore_n dX5_readMembers_104 (by decide) rfl ?_
          refine X_goto dX5_readMembers_105 (tgt := 123) rfl ?_
          refine X_iincN dX5_readMembers_123 rfl (by decide) rfl (e := x2 + 1) rfl hc27.1 hc27.2.1 ?_
          refine X_goto dX5_readMembers_126 (tgt := 4) rfl ?_
          exact hc27.2.2
        by_cases c28 : (V x0 7) = 9
        · refine X_table dX5_readMembers_33 108 75 (by rw [c28]; rfl) rfl ?_
          refine X_aload_n dX5_readMembers_108 rfl ?_
          refine X_invV (ci := 5) (as := []) (st := []) okX5_readSwitch dX5_readMembers_109 km_RX5_170 rfl rfl (Nat.le_of_ble_eq_true rfl) rfl rfl ((h.2 c1).2 c6).1 (CT.imp ((((((((h.2 c1).2 c6).2.2 c11).2 c16).2 c19).2 c22).2 c25).1 c28) (fun z29 S29 V29 mc29 ms29 hc30 => ?_))
          refine X_istore_n dX5_readMembers_112 (by decide) rfl ?_
          refine X_goto dX5_readMembers_113 (tgt := 123) rfl ?_
          refine X_iincN dX5_readMembers_123 rfl (by decide) rfl (e := x2 + 1) rfl hc30.1 hc30.2.1 ?_
          refine X_goto dX5_readMembers_126 (tgt := 4) rfl ?_
          exact hc30.2.2
        refine X_table dX5_readMembers_33 116 83 (tbl_df (by omega)) rfl ?_
        refine X_aload_n dX5_readMembers_116 rfl ?_
        refine X_iconst dX5_readMembers_117 (by decide) ?_
        refine X_iconst dX5_readMembers_118 (by decide) ?_
        refine X_invV (ci := 5) (as := [vi 0, vi 2]) (st := []) okX5_pass dX5_readMembers_119 km_RX5_48 rfl rfl (Nat.le_of_ble_eq_true rfl) rfl rfl ((h.2 c1).2 c6).1 (CT.imp ((((((((h.2 c1).2 c6).2.2 c11).2 c16).2 c19).2 c22).2 c25).2 c28) (fun z31 S31 V31 mc31 ms31 hc32 => ?_))
        refine X_istore_n dX5_readMembers_122 (by decide) rfl ?_
        refine X_iincN dX5_readMembers_123 rfl (by decide) rfl (e := x2 + 1) rfl hc32.1 hc32.2.1 ?_
        refine X_goto dX5_readMembers_126 (tgt := 4) rfl ?_
        exact hc32.2.2
theorem qX5_readMembers {l : Launch} {G : GT} {Q : Int → Sh → Mem → Prop} {d : Nat} {S : Sh} {V : Mem} {mc ms : Nat} {x0 : Int} (h : 0 ≤ x0 → XJ l G bX5_readMembers Q d 0 [vr x0, vu, vu] [] S V mc ms) : Ct l G bX5_readMembers Q d mc ms [vr x0] S V := Ct.of okX5_readMembers.1 trivial (Nat.le_of_ble_eq_true rfl) (fun hv => h (hv _ (List.mem_of_getElem? (i := 0) rfl)))
set_option maxRecDepth 10000 in
theorem vX5_readTable_0 {l : Launch} {G : GT} {Q : Int → Sh → Mem → Prop} {d : Nat} {S : Sh} {V : Mem} {mc ms : Nat} {x0 : Int} (h : S.1 x0 = 6 ∧ S.1 (V x0 4) = 4 ∧ (4 ≤ (V (V x0 4) 8) → CT l G bX5_acceptMember d mc ms [vr x0, vi 0] S V (fun z2 S2 V2 mc2 ms2 => (z2 ≠ 0 → 1 ≤ mc2 ∧ 5 ≤ ms2 ∧ (∀ (S5 : Sh) (V5 : Mem) (r5 : Int) (mc5 ms5 : Nat), r5 = S2.2.2 + 1 → S5 = nw S2 9 0 → V5 = clr V2 r5 → mc5 = mc2 - 1 → ms5 = ms2 - 5 → S5.1 x0 = 6 ∧ r5 ≠ 0 ∧ CT l G bX8_init d mc5 ms5 [vr r5, vl (V5 x0 9)] S5 V5 (fun z7 S7 V7 mc7 ms7 => S7.1 x0 = 6 ∧ S7.1 (V7 x0 4) = 4 ∧ S7.1 (V7 (V7 x0 4) 7) = 38 ∧ S7.1 r5 = 9 ∧ 0 ≤ (V7 (V7 x0 4) 8) ∧ (V7 (V7 x0 4) 8) < S7.2.1 (V7 (V7 x0 4) 7) ∧ -2147483648 ≤ (V7 (V7 x0 4) 8) + 1 ∧ (V7 (V7 x0 4) 8) + 1 ≤ 2147483647 ∧ CT l G bX5_accept d mc7 ms7 [vr x0, vi 61] S7 (up (up V7 (V7 (V7 x0 4) 7) (V7 (V7 x0 4) 8) r5) (V7 x0 4) 8 ((V7 (V7 x0 4) 8) + 1)) (fun z9 S9 V9 mc9 ms9 => (z9 = 0 → Q 0 S9 V9) ∧ (¬ (z9 = 0) → S9.1 x0 = 6 ∧ CT l G bX5_accept d mc9 ms9 [vr x0, vi 91] S9 V9 (fun z12 S12 V12 mc12 ms12 => (z12 = 0 → Q 0 S12 V12) ∧ (¬ (z12 = 0) → S12.1 x0 = 6 ∧ CT l G bX5_readEntries d mc12 ms12 [vr x0, vr r5] S12 V12 (fun z15 S15 V15 mc15 ms15 => (z15 = 0 → Q 0 S15 V15) ∧ (¬ (z15 = 0) → S15.1 x0 = 6 ∧ CT l G bX5_accept d mc15 ms15 [vr x0, vi 93] S15 V15 (fun z18 S18 V18 mc18 ms18 => (z18 = 0 → Q 0 S18 V18) ∧ (¬ (z18 = 0) → S18.1 x0 = 6 ∧ CT l G bX5_accept d mc18 ms18 [vr x0, vi 59] S18 V18 (fun z21 S21 V21 mc21 ms21 => (z21 = 0 → Q 0 S21 V21) ∧ (¬ (z21 = 0) → Q 1 S21 V21))))))))))))) ∧ (¬ (z2 ≠ 0) → Q 0 S2 V2))) ∧ (¬ (4 ≤ (V (V x0 4) 8)) → CT l G bX5_acceptMember d mc ms [vr x0, vi 1] S V (fun z24 S24 V24 mc24 ms24 => (z24 ≠ 0 → 1 ≤ mc24 ∧ 5 ≤ ms24 ∧ (∀ (S27 : Sh) (V27 : Mem) (r27 : Int) (mc27 ms27 : Nat), r27 = S24.2.2 + 1 → S27 = nw S24 9 0 → V27 = clr V24 r27 → mc27 = mc24 - 1 → ms27 = ms24 - 5 → S27.1 x0 = 6 ∧ r27 ≠ 0 ∧ CT l G bX8_init d mc27 ms27 [vr r27, vl (V27 x0 9)] S27 V27 (fun z29 S29 V29 mc29 ms29 => S29.1 x0 = 6 ∧ S29.1 (V29 x0 4) = 4 ∧ S29.1 (V29 (V29 x0 4) 7) = 38 ∧ S29.1 r27 = 9 ∧ 0 ≤ (V29 (V29 x0 4) 8) ∧ (V29 (V29 x0 4) 8) < S29.2.1 (V29 (V29 x0 4) 7) ∧ -2147483648 ≤ (V29 (V29 x0 4) 8) + 1 ∧ (V29 (V29 x0 4) 8) + 1 ≤ 2147483647 ∧ CT l G bX5_accept d mc29 ms29 [vr x0, vi 61] S29 (up (up V29 (V29 (V29 x0 4) 7) (V29 (V29 x0 4) 8) r27) (V29 x0 4) 8 ((V29 (V29 x0 4) 8) + 1)) (fun z31 S31 V31 mc31 ms31 => (z31 = 0 → Q 0 S31 V31) ∧ (¬ (z31 = 0) → S31.1 x0 = 6 ∧ CT l G bX5_accept d mc31 ms31 [vr x0, vi 91] S31 V31 (fun z34 S34 V34 mc34 ms34 => (z34 = 0 → Q 0 S34 V34) ∧ (¬ (z34 = 0) → S34.1 x0 = 6 ∧ CT l G bX5_readEntries d mc34 ms34 [vr x0, vr r27] S34 V34 (fun z37 S37 V37 mc37 ms37 => (z37 = 0 → Q 0 S37 V37) ∧ (¬ (z37 = 0) → S37.1 x0 = 6 ∧ CT l G bX5_accept d mc37 ms37 [vr x0, vi 93] S37 V37 (fun z40 S40 V40 mc40 ms40 => (z40 = 0 → Q 0 S40 V40) ∧ (¬ (z40 = 0) → S40.1 x0 = 6 ∧ CT l G bX5_accept d mc40 ms40 [vr x0, vi 59] S40 V40 (fun z43 S43 V43 mc43 ms43 => (z43 = 0 → Q 0 S43 V43) ∧ (¬ (z43 = 0) → Q 1 S43 V43))))))))))))) ∧ (¬ (z24 ≠ 0) → Q 0 S24 V24)))) : XJ l G bX5_readTable Q d 0 [vr x0, vu] [] S V mc ms := by
  refine X_aload_n dX5_readTable_0 rfl ?_
  refine X_aload_n dX5_readTable_1 rfl ?_
  refine X_getfield (ci := 5) (k := 4) (v := vr (V x0 4)) dX5_readTable_2 rfl (by decide) kf_RX5_106 rfl h.1 ?_
  refine X_getfield (ci := 3) (k := 8) (v := vi (V (V x0 4) 8)) dX5_readTable_5 rfl (by decide) kf_RX5_176 rfl h.2.1 ?_
  refine X_iconst dX5_readTable_8 (by decide) ?_
  refine X_icmp_ge dX5_readTable_9 (tgt := 16) rfl (fun c1 => ?_) (fun c1 => ?_)
  · refine X_iconst dX5_readTable_16 (by decide) ?_
    refine X_invV (ci := 5) (as := [vi 0]) (st := []) okX5_acceptMember dX5_readTable_17 km_RX5_179 rfl rfl (Nat.le_of_ble_eq_true rfl) rfl rfl h.1 (CT.imp (h.2.2.1 c1) (fun z2 S2 V2 mc2 ms2 hc3 => ?_))
    refine X_if_ne dX5_readTable_20 (tgt := 25) rfl (fun c4 => ?_) (fun c4 => ?_)
    · refine X_newT (t := 9) (ci := 8) rfl dX5_readTable_25 rfl ⟨kc_RX5_183, kn_8⟩ kd_8 (hc3.1 c4).1 (hc3.1 c4).2.1 ?_
      generalize hShn6 : nw S2 9 0 = S5
      generalize hVhn6 : clr V2 (S2.2.2 + 1) = V5
      generalize hrhn6 : S2.2.2 + 1 = r5 at hVhn6 ⊢
      generalize hmhn6 : mc2 - 1 = mc5
      generalize hkhn6 : ms2 - 5 = ms5
      have hn6 := (hc3.1 c4).2.2 S5 V5 r5 mc5 ms5 hrhn6.symm hShn6.symm hVhn6.symm hmhn6.symm hkhn6.symm
      refine X_dup dX5_readTable_28 (rv_cat _) ?_
      refine X_aload_n dX5_readTable_29 rfl ?_
      refine X_getfield (ci := 5) (k := 9) (v := vl (V5 x0 9)) dX5_readTable_30 rfl (by decide) kf_RX5_100 rfl hn6.1 ?_
      refine X_invI (as := [vl (V5 x0 9)]) (st := [vr r5]) okX8_init dX5_readTable_33 km_RX5_185 rfl rfl (Nat.le_of_ble_eq_true rfl) hn6.2.1 (CT.imp hn6.2.2 (fun z7 S7 V7 mc7 ms7 hc8 => ?_))
      refine X_astore_n dX5_readTable_36 (by decide) rfl ?_
      refine X_aload_n dX5_readTable_37 rfl ?_
      refine X_getfield (ci := 5) (k := 4) (v := vr (V7 x0 4)) dX5_readTable_38 rfl (by decide) kf_RX5_106 rfl hc8.1 ?_
      refine X_getfield (ci := 3) (k := 7) (v := vr (V7 (V7 x0 4) 7)) dX5_readTable_41 rfl (by decide) kf_RX5_186 rfl hc8.2.1 ?_
      refine X_aload_n dX5_readTable_44 rfl ?_
      refine X_getfield (ci := 5) (k := 4) (v := vr (V7 x0 4)) dX5_readTable_45 rfl (by decide) kf_RX5_106 rfl hc8.1 ?_
      refine X_getfield (ci := 3) (k := 8) (v := vi (V7 (V7 x0 4) 8)) dX5_readTable_48 rfl (by decide) kf_RX5_176 rfl hc8.2.1 ?_
      refine X_aload_n dX5_readTable_51 rfl ?_
      refine X_aastore (ci := 8) (t := 38) rfl dX5_readTable_52 (by decide) rfl hc8.2.2.1 hc8.2.2.2.1 hc8.2.2.2.2.1 hc8.2.2.2.2.2.1 ?_
      refine X_aload_n dX5_readTable_53 rfl ?_
      refine X_getfield (ci := 5) (k := 4) (v := vr (V7 x0 4)) dX5_readTable_54 rfl (by decide) kf_RX5_106 (congrArg vr (up_ne (Or.inl (tag_ne hc8.1 hc8.2.2.1 (by decide))))) hc8.1 ?_
      refine X_dup dX5_readTable_57 (rv_cat _) ?_
      refine X_getfield (ci := 3) (k := 8) (v := vi (V7 (V7 x0 4) 8)) dX5_readTable_58 rfl (by decide) kf_RX5_176 (congrArg vi (up_ne (Or.inl (tag_ne hc8.2.1 hc8.2.2.1 (by decide))))) hc8.2.1 ?_
      refine X_iconst dX5_readTable_61 (by decide) ?_
      refine X_iaddN dX5_readTable_62 hc8.2.2.2.2.2.2.1 hc8.2.2.2.2.2.2.2.1 ?_
      refine X_putfield (ci := 3) (k := 8) (z := ((V7 (V7 x0 4) 8) + 1)) dX5_readTable_63 rfl (by decide) kf_RX5_176 (Or.inl rfl) (Or.inl rfl) rfl (fun hv => hv) hc8.2.1 ?_
      refine X_aload_n dX5_readTable_66 rfl ?_
      refine X_bipush dX5_readTable_67 (by decide) (by decide) ?_
      refine X_invV (ci := 5) (as := [vi 61]) (st := []) okX5_accept dX5_readTable_69 km_RX5_117 rfl rfl (Nat.le_of_ble_eq_true rfl) rfl rfl hc8.1 (CT.imp hc8.2.2.2.2.2.2.2.2 (fun z9 S9 V9 mc9 ms9 hc10 => ?_))
      refine X_if_eq dX5_readTable_72 (tgt := 114) rfl (fun c11 => ?_) (fun c11 => ?_)
      · refine X_iconst dX5_readTable_114 (by decide) ?_
        exact X_ret (z := 0) dX5_readTable_115 rfl (fun _ => Or.inl rfl) (hc10.1 c11)
      · refine X_aload_n dX5_readTable_75 rfl ?_
        refine X_bipush dX5_readTable_76 (by decide) (by decide) ?_
        refine X_invV (ci := 5) (as := [vi 91]) (st := []) okX5_accept dX5_readTable_78 km_RX5_117 rfl rfl (Nat.le_of_ble_eq_true rfl) rfl rfl (hc10.2 c11).1 (CT.imp (hc10.2 c11).2 (fun z12 S12 V12 mc12 ms12 hc13 => ?_))
        refine X_if_eq dX5_readTable_81 (tgt := 114) rfl (fun c14 => ?_) (fun c14 => ?_)
        · refine X_iconst dX5_readTable_114 (by decide) ?_
          exact X_ret (z := 0) dX5_readTable_115 rfl (fun _ => Or.inl rfl) (hc13.1 c14)
        · refine X_aload_n dX5_readTable_84 rfl ?_
          refine X_aload_n dX5_readTable_85 rfl ?_
          refine X_invV (ci := 5) (as := [vr r5]) (st := []) okX5_readEntries dX5_readTable_86 km_RX5_190 rfl rfl (Nat.le_of_ble_eq_true rfl) rfl rfl (hc13.2 c14).1 (CT.imp (hc13.2 c14).2 (fun z15 S15 V15 mc15 ms15 hc16 => ?_))
          refine X_if_eq dX5_readTable_89 (tgt := 114) rfl (fun c17 => ?_) (fun c17 => ?_)
          · refine X_iconst dX5_readTable_114 (by decide) ?_
            exact X_ret (z := 0) dX5_readTable_115 rfl (fun _ => Or.inl rfl) (hc16.1 c17)
          · refine X_aload_n dX5_readTable_92 rfl ?_
            refine X_bipush dX5_readTable_93 (by decide) (by decide) ?_
            refine X_invV (ci := 5) (as := [vi 93]) (st := []) okX5_accept dX5_readTable_95 km_RX5_117 rfl rfl (Nat.le_of_ble_eq_true rfl) rfl rfl (hc16.2 c17).1 (CT.imp (hc16.2 c17).2 (fun z18 S18 V18 mc18 ms18 hc19 => ?_))
            refine X_if_eq dX5_readTable_98 (tgt := 114) rfl (fun c20 => ?_) (fun c20 => ?_)
            · refine X_iconst dX5_readTable_114 (by decide) ?_
              exact X_ret (z := 0) dX5_readTable_115 rfl (fun _ => Or.inl rfl) (hc19.1 c20)
            · refine X_aload_n dX5_readTable_101 rfl ?_
              refine X_bipush dX5_readTable_102 (by decide) (by decide) ?_
              refine X_invV (ci := 5) (as := [vi 59]) (st := []) okX5_accept dX5_readTable_104 km_RX5_117 rfl rfl (Nat.le_of_ble_eq_true rfl) rfl rfl (hc19.2 c20).1 (CT.imp (hc19.2 c20).2 (fun z21 S21 V21 mc21 ms21 hc22 => ?_))
              refine X_if_eq dX5_readTable_107 (tgt := 114) rfl (fun c23 => ?_) (fun c23 => ?_)
              · refine X_iconst dX5_readTable_114 (by decide) ?_
                exact X_ret (z := 0) dX5_readTable_115 rfl (fun _ => Or.inl rfl) (hc22.1 c23)
              · refine X_iconst dX5_readTable_110 (by decide) ?_
                refine X_goto dX5_readTable_111 (tgt := 115) rfl ?_
                exact X_ret (z := 1) dX5_readTable_115 rfl (fun _ => Or.inr rfl) (hc22.2 c23)
    · refine X_iconst dX5_readTable_23 (by decide) ?_
      exact X_ret (z := 0) dX5_readTable_24 rfl (fun _ => Or.inl rfl) (hc3.2 c4)
  · refine X_iconst dX5_readTable_12 (by decide) ?_
    refine X_goto dX5_readTable_13 (tgt := 17) rfl ?_
    refine X_invV (ci := 5) (as := [vi 1]) (st := []) okX5_acceptMember dX5_readTable_17 km_RX5_179 rfl rfl (Nat.le_of_ble_eq_true rfl) rfl rfl h.1 (CT.imp (h.2.2.2 c1) (fun z24 S24 V24 mc24 ms24 hc25 => ?_))
    refine X_if_ne dX5_readTable_20 (tgt := 25) rfl (fun c26 => ?_) (fun c26 => ?_)
    · refine X_newT (t := 9) (ci := 8) rfl dX5_readTable_25 rfl ⟨kc_RX5_183, kn_8⟩ kd_8 (hc25.1 c26).1 (hc25.1 c26).2.1 ?_
      generalize hShn28 : nw S24 9 0 = S27
      generalize hVhn28 : clr V24 (S24.2.2 + 1) = V27
      generalize hrhn28 : S24.2.2 + 1 = r27 at hVhn28 ⊢
      generalize hmhn28 : mc24 - 1 = mc27
      generalize hkhn28 : ms24 - 5 = ms27
      have hn28 := (hc25.1 c26).2.2 S27 V27 r27 mc27 ms27 hrhn28.symm hShn28.symm hVhn28.symm hmhn28.symm hkhn28.symm
      refine X_dup dX5_readTable_28 (rv_cat _) ?_
      refine X_aload_n dX5_readTable_29 rfl ?_
      refine X_getfield (ci := 5) (k := 9) (v := vl (V27 x0 9)) dX5_readTable_30 rfl (by decide) kf_RX5_100 rfl hn28.1 ?_
      refine X_invI (as := [vl (V27 x0 9)]) (st := [vr r27]) okX8_init dX5_readTable_33 km_RX5_185 rfl rfl (Nat.le_of_ble_eq_true rfl) hn28.2.1 (CT.imp hn28.2.2 (fun z29 S29 V29 mc29 ms29 hc30 => ?_))
      refine X_astore_n dX5_readTable_36 (by decide) rfl ?_
      refine X_aload_n dX5_readTable_37 rfl ?_
      refine X_getfield (ci := 5) (k := 4) (v := vr (V29 x0 4)) dX5_readTable_38 rfl (by decide) kf_RX5_106 rfl hc30.1 ?_
      refine X_getfield (ci := 3) (k := 7) (v := vr (V29 (V29 x0 4) 7)) dX5_readTable_41 rfl (by decide) kf_RX5_186 rfl hc30.2.1 ?_
      refine X_aload_n dX5_readTable_44 rfl ?_
      refine X_getfield (ci := 5) (k := 4) (v := vr (V29 x0 4)) dX5_readTable_45 rfl (by decide) kf_RX5_106 rfl hc30.1 ?_
      refine X_getfield (ci := 3) (k := 8) (v := vi (V29 (V29 x0 4) 8)) dX5_readTable_48 rfl (by decide) kf_RX5_176 rfl hc30.2.1 ?_
      refine X_aload_n dX5_readTable_51 rfl ?_
      refine X_aastore (ci := 8) (t := 38) rfl dX5_readTable_52 (by decide) rfl hc30.2.2.1 hc30.2.2.2.1 hc30.2.2.2.2.1 hc30.2.2.2.2.2.1 ?_
      refine X_aload_n dX5_readTable_53 rfl ?_
      refine X_getfield (ci := 5) (k := 4) (v := vr (V29 x0 4)) dX5_readTable_54 rfl (by decide) kf_RX5_106 (congrArg vr (up_ne (Or.inl (tag_ne hc30.1 hc30.2.2.1 (by decide))))) hc30.1 ?_
      refine X_dup dX5_readTable_57 (rv_cat _) ?_
      refine X_getfield (ci := 3) (k := 8) (v := vi (V29 (V29 x0 4) 8)) dX5_readTable_58 rfl (by decide) kf_RX5_176 (congrArg vi (up_ne (Or.inl (tag_ne hc30.2.1 hc30.2.2.1 (by decide))))) hc30.2.1 ?_
      refine X_iconst dX5_readTable_61 (by decide) ?_
      refine X_iaddN dX5_readTable_62 hc30.2.2.2.2.2.2.1 hc30.2.2.2.2.2.2.2.1 ?_
      refine X_putfield (ci := 3) (k := 8) (z := ((V29 (V29 x0 4) 8) + 1)) dX5_readTable_63 rfl (by decide) kf_RX5_176 (Or.inl rfl) (Or.inl rfl) rfl (fun hv => hv) hc30.2.1 ?_
      refine X_aload_n dX5_readTable_66 rfl ?_
      refine X_bipush dX5_readTable_67 (by decide) (by decide) ?_
      refine X_invV (ci := 5) (as := [vi 61]) (st := []) okX5_accept dX5_readTable_69 km_RX5_117 rfl rfl (Nat.le_of_ble_eq_true rfl) rfl rfl hc30.1 (CT.imp hc30.2.2.2.2.2.2.2.2 (fun z31 S31 V31 mc31 ms31 hc32 => ?_))
      refine X_if_eq dX5_readTable_72 (tgt := 114) rfl (fun c33 => ?_) (fun c33 => ?_)
      · refine X_iconst dX5_readTable_114 (by decide) ?_
        exact X_ret (z := 0) dX5_readTable_115 rfl (fun _ => Or.inl rfl) (hc32.1 c33)
      · refine X_aload_n dX5_readTable_75 rfl ?_
        refine X_bipush dX5_readTable_76 (by decide) (by decide) ?_
        refine X_invV (ci := 5) (as := [vi 91]) (st := []) okX5_accept dX5_readTable_78 km_RX5_117 rfl rfl (Nat.le_of_ble_eq_true rfl) rfl rfl (hc32.2 c33).1 (CT.imp (hc32.2 c33).2 (fun z34 S34 V34 mc34 ms34 hc35 => ?_))
        refine X_if_eq dX5_readTable_81 (tgt := 114) rfl (fun c36 => ?_) (fun c36 => ?_)
        · refine X_iconst dX5_readTable_114 (by decide) ?_
          exact X_ret (z := 0) dX5_readTable_115 rfl (fun _ => Or.inl rfl) (hc35.1 c36)
        · refine X_aload_n dX5_readTable_84 rfl ?_
          refine X_aload_n dX5_readTable_85 rfl ?_
          refine X_invV (ci := 5) (as := [vr r27]) (st := []) okX5_readEntries dX5_readTable_86 km_RX5_190 rfl rfl (Nat.le_of_ble_eq_true rfl) rfl rfl (hc35.2 c36).1 (CT.imp (hc35.2 c36).2 (fun z37 S37 V37 mc37 ms37 hc38 => ?_))
          refine X_if_eq dX5_readTable_89 (tgt := 114) rfl (fun c39 => ?_) (fun c39 => ?_)
          · refine X_iconst dX5_readTable_114 (by decide) ?_
            exact X_ret (z := 0) dX5_readTable_115 rfl (fun _ => Or.inl rfl) (hc38.1 c39)
          · refine X_aload_n dX5_readTable_92 rfl ?_
            refine X_bipush dX5_readTable_93 (by decide) (by decide) ?_
            refine X_invV (ci := 5) (as := [vi 93]) (st := []) okX5_accept dX5_readTable_95 km_RX5_117 rfl rfl (Nat.le_of_ble_eq_true rfl) rfl rfl (hc38.2 c39).1 (CT.imp (hc38.2 c39).2 (fun z40 S40 V40 mc40 ms40 hc41 => ?_))
            refine X_if_eq dX5_readTable_98 (tgt := 114) rfl (fun c42 => ?_) (fun c42 => ?_)
            · refine X_iconst dX5_readTable_114 (by decide) ?_
              exact X_ret (z := 0) dX5_readTable_115 rfl (fun _ => Or.inl rfl) (hc41.1 c42)
            · refine X_aload_n dX5_readTable_101 rfl ?_
              refine X_bipush dX5_readTable_102 (by decide) (by decide) ?_
              refine X_invV (ci := 5) (as := [vi 59]) (st := []) okX5_accept dX5_readTable_104 km_RX5_117 rfl rfl (Nat.le_of_ble_eq_true rfl) rfl rfl (hc41.2 c42).1 (CT.imp (hc41.2 c42).2 (fun z43 S43 V43 mc43 ms43 hc44 => ?_))
              refine X_if_eq dX5_readTable_107 (tgt := 114) rfl (fun c45 => ?_) (fun c45 => ?_)
              · refine X_iconst dX5_readTable_114 (by decide) ?_
                exact X_ret (z := 0) dX5_readTable_115 rfl (fun _ => Or.inl rfl) (hc44.1 c45)
              · refine X_iconst dX5_readTable_110 (by decide) ?_
                refine X_goto dX5_readTable_111 (tgt := 115) rfl ?_
                exact X_ret (z := 1) dX5_readTable_115 rfl (fun _ => Or.inr rfl) (hc44.2 c45)
    · refine X_iconst dX5_readTable_23 (by decide) ?_
      exact X_ret (z := 0) dX5_readTable_24 rfl (fun _ => Or.inl rfl) (hc25.2 c26)
theorem qX5_readTable {l : Launch} {G : GT} {Q : Int → Sh → Mem → Prop} {d : Nat} {S : Sh} {V : Mem} {mc ms : Nat} {x0 : Int} (h : 0 ≤ x0 → XJ l G bX5_readTable Q d 0 [vr x0, vu] [] S V mc ms) : Ct l G bX5_readTable Q d mc ms [vr x0] S V := Ct.of okX5_readTable.1 trivial (Nat.le_of_ble_eq_true rfl) (fun hv => h (hv _ (List.mem_of_getElem? (i := 0) rfl)))
set_option maxRecDepth 10000 in
theorem vX5_readEntries_0 {l : Launch} {G : GT} {Q : Int → Sh → Mem → Prop} {d : Nat} {S : Sh} {V : Mem} {mc ms : Nat} {x0 x1 : Int} (h : XJ l G bX5_readEntries Q d 2 [vr x0, vr x1, vi 0] [] S V mc ms) : XJ l G bX5_readEntries Q d 0 [vr x0, vr x1, vu] [] S V mc ms := by
  refine X_iconst dX5_readEntries_0 (by decide) ?_
  refine X_istore_n dX5_readEntries_1 (by decide) rfl ?_
  exact h
set_option maxRecDepth 10000 in
theorem vX5_readEntries_2 {l : Launch} {G : GT} {Q : Int → Sh → Mem → Prop} {d : Nat} {S : Sh} {V : Mem} {mc ms : Nat} {x0 x1 x2 : Int} (h : (12 ≤ x2 → S.1 x0 = 6 ∧ CT l G bX5_beginsPlainExpr d mc ms [vr x0] S V (fun z2 S2 V2 mc2 ms2 => (z2 = 0 → S2.1 x0 = 6 ∧ CT l G bX5_pass d mc2 ms2 [vr x0, vi 0, vi 2] S2 V2 (fun z5 S5 V5 mc5 ms5 => (z5 = 0 ∨ z5 = 1) ∧ Q z5 S5 V5)) ∧ (¬ (z2 = 0) → S2.1 x0 = 6 ∧ CT l G bX5_pass d mc2 ms2 [vr x0, vi 0, vi 5] S2 V2 (fun z7 S7 V7 mc7 ms7 => (z7 = 0 ∨ z7 = 1) ∧ Q z7 S7 V7)))) ∧ (¬ (12 ≤ x2) → S.1 x1 = 9 ∧ S.1 x0 = 6 ∧ S.1 (V x0 1) = 2 ∧ S.1 (V x1 1) = 20 ∧ 0 ≤ x2 ∧ x2 < S.2.1 (V x1 1) ∧ -2147483648 ≤ (V x1 3) + 1 ∧ (V x1 3) + 1 ≤ 2147483647 ∧ CT l G bX5_readSum d mc ms [vr x0, vi 0] S (up (up V (V x1 1) x2 (V (V x0 1) 2)) x1 3 ((V x1 3) + 1)) (fun z9 S9 V9 mc9 ms9 => (z9 ≠ 0 → S9.1 x0 = 6 ∧ ((V9 x0 7) = 44 → CT l G bX5_accept d mc9 ms9 [vr x0, vi 44] S9 V9 (fun z13 S13 V13 mc13 ms13 => -2147483648 ≤ x2 + 1 ∧ x2 + 1 ≤ 2147483647 ∧ XJ l G bX5_readEntries Q d 2 [vr x0, vr x1, vi (x2 + 1)] [] S13 V13 mc13 ms13)) ∧ (¬ ((V9 x0 7) = 44) → Q 1 S9 V9)) ∧ (¬ (z9 ≠ 0) → Q 0 S9 V9)))) : XJ l G bX5_readEntries Q d 2 [vr x0, vr x1, vi x2] [] S V mc ms := by
  refine X_iload_n dX5_readEntries_2 rfl ?_
  refine X_bipush dX5_readEntries_3 (by decide) (by decide) ?_
  refine X_icmp_ge dX5_readEntries_5 (tgt := 65) rfl (fun c1 => ?_) (fun c1 => ?_)
  · refine X_aload_n dX5_readEntries_65 rfl ?_
    refine X_iconst dX5_readEntries_66 (by decide) ?_
    refine X_aload_n dX5_readEntries_67 rfl ?_
    refine X_invV (ci := 5) (as := []) (st := [vi 0, vr x0]) okX5_beginsPlainExpr dX5_readEntries_68 km_RX5_200 rfl rfl (Nat.le_of_ble_eq_true rfl) rfl rfl (h.1 c1).1 (CT.imp (h.1 c1).2 (fun z2 S2 V2 mc2 ms2 hc3 => ?_))
    refine X_if_eq dX5_readEntries_71 (tgt := 78) rfl (fun c4 => ?_) (fun c4 => ?_)
    · refine X_iconst dX5_readEntries_78 (by decide) ?_
      refine X_invV (ci := 5) (as := [vi 0, vi 2]) (st := []) okX5_pass dX5_readEntries_79 km_RX5_48 rfl rfl (Nat.le_of_ble_eq_true rfl) rfl rfl (hc3.1 c4).1 (CT.imp (hc3.1 c4).2 (fun z5 S5 V5 mc5 ms5 hc6 => ?_))
      exact X_ret (z := z5) dX5_readEntries_82 rfl (fun _ => hc6.1) hc6.2
    · refine X_iconst dX5_readEntries_74 (by decide) ?_
      refine X_goto dX5_readEntries_75 (tgt := 79) rfl ?_
      refine X_invV (ci := 5) (as := [vi 0, vi 5]) (st := []) okX5_pass dX5_readEntries_79 km_RX5_48 rfl rfl (Nat.le_of_ble_eq_true rfl) rfl rfl (hc3.2 c4).1 (CT.imp (hc3.2 c4).2 (fun z7 S7 V7 mc7 ms7 hc8 => ?_))
      exact X_ret (z := z7) dX5_readEntries_82 rfl (fun _ => hc8.1) hc8.2
  · refine X_aload_n dX5_readEntries_8 rfl ?_
    refine X_getfield (ci := 8) (k := 1) (v := vr (V x1 1)) dX5_readEntries_9 rfl (by decide) kf_RX5_194 rfl (h.2 c1).1 ?_
    refine X_iload_n dX5_readEntries_12 rfl ?_
    refine X_aload_n dX5_readEntries_13 rfl ?_
    refine X_getfield (ci := 5) (k := 1) (v := vr (V x0 1)) dX5_readEntries_14 rfl (by decide) kf_RX5_14 rfl (h.2 c1).2.1 ?_
    refine X_getfield (ci := 1) (k := 2) (v := vi (V (V x0 1) 2)) dX5_readEntries_17 rfl (by decide) kf_RX5_35 rfl (h.2 c1).2.2.1 ?_
    refine X_iastore dX5_readEntries_20 (h.2 c1).2.2.2.1 (h.2 c1).2.2.2.2.1 (h.2 c1).2.2.2.2.2.1 ?_
    refine X_aload_n dX5_readEntries_21 rfl ?_
    refine X_dup dX5_readEntries_22 (rv_cat _) ?_
    refine X_getfield (ci := 8) (k := 3) (v := vi (V x1 3)) dX5_readEntries_23 rfl (by decide) kf_RX5_197 (congrArg vi (up_ne (Or.inl (tag_ne (h.2 c1).1 (h.2 c1).2.2.2.1 (by decide))))) (h.2 c1).1 ?_
    refine X_iconst dX5_readEntries_26 (by decide) ?_
    refine X_iaddN dX5_readEntries_27 (h.2 c1).2.2.2.2.2.2.1 (h.2 c1).2.2.2.2.2.2.2.1 ?_
    refine X_putfield (ci := 8) (k := 3) (z := ((V x1 3) + 1)) dX5_readEntries_28 rfl (by decide) kf_RX5_197 (Or.inl rfl) (Or.inl rfl) rfl (fun hv => hv) (h.2 c1).1 ?_
    refine X_aload_n dX5_readEntries_31 rfl ?_
    refine X_iconst dX5_readEntries_32 (by decide) ?_
    refine X_invV (ci := 5) (as := [vi 0]) (st := []) okX5_readSum dX5_readEntries_33 km_RX5_144 rfl rfl (Nat.le_of_ble_eq_true rfl) rfl rfl (h.2 c1).2.1 (CT.imp (h.2 c1).2.2.2.2.2.2.2.2 (fun z9 S9 V9 mc9 ms9 hc10 => ?_))
    refine X_if_ne dX5_readEntries_36 (tgt := 41) rfl (fun c11 => ?_) (fun c11 => ?_)
    · refine X_aload_n dX5_readEntries_41 rfl ?_
      refine X_getfield (ci := 5) (k := 7) (v := vi (V9 x0 7)) dX5_readEntries_42 rfl (by decide) kf_RX5_52 rfl (hc10.1 c11).1 ?_
      refine X_bipush dX5_readEntries_45 (by decide) (by decide) ?_
      refine X_icmp_eq dX5_readEntries_47 (tgt := 52) rfl (fun c12 => ?_) (fun c12 => ?_)
      · refine X_aload_n dX5_readEntries_52 rfl ?_
        refine X_bipush dX5_readEntries_53 (by decide) (by decide) ?_
        refine X_invV (ci := 5) (as := [vi 44]) (st := []) okX5_accept dX5_readEntries_55 km_RX5_117 rfl rfl (Nat.le_of_ble_eq_true rfl) rfl rfl (hc10.1 c11).1 (CT.imp ((hc10.1 c11).2.1 c12) (fun z13 S13 V13 mc13 ms13 hc14 => ?_))
        refine X_pop dX5_readEntries_58 rfl ?_
        refine X_iincN dX5_readEntries_59 rfl (by decide) rfl (e := x2 + 1) rfl hc14.1 hc14.2.1 ?_
        refine X_goto dX5_readEntries_62 (tgt := 2) rfl ?_
        exact hc14.2.2
      · refine X_iconst dX5_readEntries_50 (by decide) ?_
        exact X_ret (z := 1) dX5_readEntries_51 rfl (fun _ => Or.inr rfl) ((hc10.1 c11).2.2 c12)
    · refine X_iconst dX5_readEntries_39 (by decide) ?_
      exact X_ret (z := 0) dX5_readEntries_40 rfl (fun _ => Or.inl rfl) (hc10.2 c11)
theorem qX5_readEntries {l : Launch} {G : GT} {Q : Int → Sh → Mem → Prop} {d : Nat} {S : Sh} {V : Mem} {mc ms : Nat} {x0 x1 : Int} (h : 0 ≤ x0 → 0 ≤ x1 → XJ l G bX5_readEntries Q d 0 [vr x0, vr x1, vu] [] S V mc ms) : Ct l G bX5_readEntries Q d mc ms [vr x0, vr x1] S V := Ct.of okX5_readEntries.1 trivial (Nat.le_of_ble_eq_true rfl) (fun hv => h (hv _ (List.mem_of_getElem? (i := 0) rfl)) (hv _ (List.mem_of_getElem? (i := 1) rfl)))
set_option maxRecDepth 10000 in
theorem vX5_beginsPlainExpr_0 {l : Launch} {G : GT} {Q : Int → Sh → Mem → Prop} {d : Nat} {S : Sh} {V : Mem} {mc ms : Nat} {x0 : Int} (h : S.1 x0 = 6 ∧ ((V x0 7) = 2 → Q 1 S V) ∧ (¬ ((V x0 7) = 2) → ((V x0 7) = 3 → Q 1 S V) ∧ (¬ ((V x0 7) = 3) → ((V x0 7) = 14 → Q 1 S V) ∧ (¬ ((V x0 7) = 14) → ((V x0 7) = 45 → Q 1 S V) ∧ (¬ ((V x0 7) = 45) → ((V x0 7) ≠ 40 → Q 0 S V) ∧ (¬ ((V x0 7) ≠ 40) → Q 1 S V)))))) : XJ l G bX5_beginsPlainExpr Q d 0 [vr x0] [] S V mc ms := by
  refine X_aload_n dX5_beginsPlainExpr_0 rfl ?_
  refine X_getfield (ci := 5) (k := 7) (v := vi (V x0 7)) dX5_beginsPlainExpr_1 rfl (by decide) kf_RX5_52 rfl h.1 ?_
  refine X_iconst dX5_beginsPlainExpr_4 (by decide) ?_
  refine X_icmp_eq dX5_beginsPlainExpr_5 (tgt := 43) rfl (fun c1 => ?_) (fun c1 => ?_)
  · refine X_iconst dX5_beginsPlainExpr_43 (by decide) ?_
    refine X_goto dX5_beginsPlainExpr_44 (tgt := 48) rfl ?_
    exact X_ret (z := 1) dX5_beginsPlainExpr_48 rfl (fun _ => Or.inr rfl) (h.2.1 c1)
  · refine X_aload_n dX5_beginsPlainExpr_8 rfl ?_
    refine X_getfield (ci := 5) (k := 7) (v := vi (V x0 7)) dX5_beginsPlainExpr_9 rfl (by decide) kf_RX5_52 rfl h.1 ?_
    refine X_iconst dX5_beginsPlainExpr_12 (by decide) ?_
    refine X_icmp_eq dX5_beginsPlainExpr_13 (tgt := 43) rfl (fun c2 => ?_) (fun c2 => ?_)
    · refine X_iconst dX5_beginsPlainExpr_43 (by decide) ?_
      refine X_goto dX5_beginsPlainExpr_44 (tgt := 48) rfl ?_
      exact X_ret (z := 1) dX5_beginsPlainExpr_48 rfl (fun _ => Or.inr rfl) ((h.2.2 c1).1 c2)
    · refine X_aload_n dX5_beginsPlainExpr_16 rfl ?_
      refine X_getfield (ci := 5) (k := 7) (v := vi (V x0 7)) dX5_beginsPlainExpr_17 rfl (by decide) kf_RX5_52 rfl h.1 ?_
      refine X_bipush dX5_beginsPlainExpr_20 (by decide) (by decide) ?_
      refine X_icmp_eq dX5_beginsPlainExpr_22 (tgt := 43) rfl (fun c3 => ?_) (fun c3 => ?_)
      · refine X_iconst dX5_beginsPlainExpr_43 (by decide) ?_
        refine X_goto dX5_beginsPlainExpr_44 (tgt := 48) rfl ?_
        exact X_ret (z := 1) dX5_beginsPlainExpr_48 rfl (fun _ => Or.inr rfl) (((h.2.2 c1).2 c2).1 c3)
      · refine X_aload_n dX5_beginsPlainExpr_25 rfl ?_
        refine X_getfield (ci := 5) (k := 7) (v := vi (V x0 7)) dX5_beginsPlainExpr_26 rfl (by decide) kf_RX5_52 rfl h.1 ?_
        refine X_bipush dX5_beginsPlainExpr_29 (by decide) (by decide) ?_
        refine X_icmp_eq dX5_beginsPlainExpr_31 (tgt := 43) rfl (fun c4 => ?_) (fun c4 => ?_)
        · refine X_iconst dX5_beginsPlainExpr_43 (by decide) ?_
          refine X_goto dX5_beginsPlainExpr_44 (tgt := 48) rfl ?_
          exact X_ret (z := 1) dX5_beginsPlainExpr_48 rfl (fun _ => Or.inr rfl) ((((h.2.2 c1).2 c2).2 c3).1 c4)
        · refine X_aload_n dX5_beginsPlainExpr_34 rfl ?_
          refine X_getfield (ci := 5) (k := 7) (v := vi (V x0 7)) dX5_beginsPlainExpr_35 rfl (by decide) kf_RX5_52 rfl h.1 ?_
          refine X_bipush dX5_beginsPlainExpr_38 (by decide) (by decide) ?_
          refine X_icmp_ne dX5_beginsPlainExpr_40 (tgt := 47) rfl (fun c5 => ?_) (fun c5 => ?_)
          · refine X_iconst dX5_beginsPlainExpr_47 (by decide) ?_
            exact X_ret (z := 0) dX5_beginsPlainExpr_48 rfl (fun _ => Or.inl rfl) (((((h.2.2 c1).2 c2).2 c3).2 c4).1 c5)
          · refine X_iconst dX5_beginsPlainExpr_43 (by decide) ?_
            refine X_goto dX5_beginsPlainExpr_44 (tgt := 48) rfl ?_
            exact X_ret (z := 1) dX5_beginsPlainExpr_48 rfl (fun _ => Or.inr rfl) (((((h.2.2 c1).2 c2).2 c3).2 c4).2 c5)
theorem qX5_beginsPlainExpr {l : Launch} {G : GT} {Q : Int → Sh → Mem → Prop} {d : Nat} {S : Sh} {V : Mem} {mc ms : Nat} {x0 : Int} (h : 0 ≤ x0 → XJ l G bX5_beginsPlainExpr Q d 0 [vr x0] [] S V mc ms) : Ct l G bX5_beginsPlainExpr Q d mc ms [vr x0] S V := Ct.of okX5_beginsPlainExpr.1 trivial (Nat.le_of_ble_eq_true rfl) (fun hv => h (hv _ (List.mem_of_getElem? (i := 0) rfl)))
set_option maxRecDepth 10000 in
theorem vX5_readCheck_0 {l : Launch} {G : GT} {Q : Int → Sh → Mem → Prop} {d : Nat} {S : Sh} {V : Mem} {mc ms : Nat} {x0 : Int} (h : S.1 x0 = 6 ∧ S.1 (V x0 4) = 4 ∧ (3 ≤ (V (V x0 4) 10) → CT l G bX5_pass d mc ms [vr x0, vi 0, vi 5] S V (fun z2 S2 V2 mc2 ms2 => (z2 ≠ 0 → S2.1 x0 = 6 ∧ S2.1 (V2 x0 4) = 4 ∧ S2.1 (V2 x0 1) = 2 ∧ S2.1 (V2 (V2 x0 4) 9) = 20 ∧ 0 ≤ (V2 (V2 x0 4) 10) ∧ (V2 (V2 x0 4) 10) < S2.2.1 (V2 (V2 x0 4) 9) ∧ -2147483648 ≤ (V2 (V2 x0 4) 10) + 1 ∧ (V2 (V2 x0 4) 10) + 1 ≤ 2147483647 ∧ CT l G bX5_readSum d mc2 ms2 [vr x0, vi 0] S2 (up (up V2 (V2 (V2 x0 4) 9) (V2 (V2 x0 4) 10) (V2 (V2 x0 1) 2)) (V2 x0 4) 10 ((V2 (V2 x0 4) 10) + 1)) (fun z5 S5 V5 mc5 ms5 => (z5 = 0 → Q 0 S5 V5) ∧ (¬ (z5 = 0) → S5.1 x0 = 6 ∧ CT l G bX5_accept d mc5 ms5 [vr x0, vi 59] S5 V5 (fun z8 S8 V8 mc8 ms8 => (z8 = 0 → Q 0 S8 V8) ∧ (¬ (z8 = 0) → Q 1 S8 V8))))) ∧ (¬ (z2 ≠ 0) → Q 0 S2 V2))) ∧ (¬ (3 ≤ (V (V x0 4) 10)) → CT l G bX5_pass d mc ms [vr x0, vi 1, vi 5] S V (fun z11 S11 V11 mc11 ms11 => (z11 ≠ 0 → S11.1 x0 = 6 ∧ S11.1 (V11 x0 4) = 4 ∧ S11.1 (V11 x0 1) = 2 ∧ S11.1 (V11 (V11 x0 4) 9) = 20 ∧ 0 ≤ (V11 (V11 x0 4) 10) ∧ (V11 (V11 x0 4) 10) < S11.2.1 (V11 (V11 x0 4) 9) ∧ -2147483648 ≤ (V11 (V11 x0 4) 10) + 1 ∧ (V11 (V11 x0 4) 10) + 1 ≤ 2147483647 ∧ CT l G bX5_readSum d mc11 ms11 [vr x0, vi 0] S11 (up (up V11 (V11 (V11 x0 4) 9) (V11 (V11 x0 4) 10) (V11 (V11 x0 1) 2)) (V11 x0 4) 10 ((V11 (V11 x0 4) 10) + 1)) (fun z14 S14 V14 mc14 ms14 => (z14 = 0 → Q 0 S14 V14) ∧ (¬ (z14 = 0) → S14.1 x0 = 6 ∧ CT l G bX5_accept d mc14 ms14 [vr x0, vi 59] S14 V14 (fun z17 S17 V17 mc17 ms17 => (z17 = 0 → Q 0 S17 V17) ∧ (¬ (z17 = 0) → Q 1 S17 V17))))) ∧ (¬ (z11 ≠ 0) → Q 0 S11 V11)))) : XJ l G bX5_readCheck Q d 0 [vr x0] [] S V mc ms := by
  refine X_aload_n dX5_readCheck_0 rfl ?_
  refine X_aload_n dX5_readCheck_1 rfl ?_
  refine X_getfield (ci := 5) (k := 4) (v := vr (V x0 4)) dX5_readCheck_2 rfl (by decide) kf_RX5_106 rfl h.1 ?_
  refine X_getfield (ci := 3) (k := 10) (v := vi (V (V x0 4) 10)) dX5_readCheck_5 rfl (by decide) kf_RX5_203 rfl h.2.1 ?_
  refine X_iconst dX5_readCheck_8 (by decide) ?_
  refine X_icmp_ge dX5_readCheck_9 (tgt := 16) rfl (fun c1 => ?_) (fun c1 => ?_)
  · refine X_iconst dX5_readCheck_16 (by decide) ?_
    refine X_iconst dX5_readCheck_17 (by decide) ?_
    refine X_invV (ci := 5) (as := [vi 0, vi 5]) (st := []) okX5_pass dX5_readCheck_18 km_RX5_48 rfl rfl (Nat.le_of_ble_eq_true rfl) rfl rfl h.1 (CT.imp (h.2.2.1 c1) (fun z2 S2 V2 mc2 ms2 hc3 => ?_))
    refine X_if_ne dX5_readCheck_21 (tgt := 26) rfl (fun c4 => ?_) (fun c4 => ?_)
    · refine X_aload_n dX5_readCheck_26 rfl ?_
      refine X_getfield (ci := 5) (k := 4) (v := vr (V2 x0 4)) dX5_readCheck_27 rfl (by decide) kf_RX5_106 rfl (hc3.1 c4).1 ?_
      refine X_getfield (ci := 3) (k := 9) (v := vr (V2 (V2 x0 4) 9)) dX5_readCheck_30 rfl (by decide) kf_RX5_206 rfl (hc3.1 c4).2.1 ?_
      refine X_aload_n dX5_readCheck_33 rfl ?_
      refine X_getfield (ci := 5) (k := 4) (v := vr (V2 x0 4)) dX5_readCheck_34 rfl (by decide) kf_RX5_106 rfl (hc3.1 c4).1 ?_
      refine X_getfield (ci := 3) (k := 10) (v := vi (V2 (V2 x0 4) 10)) dX5_readCheck_37 rfl (by decide) kf_RX5_203 rfl (hc3.1 c4).2.1 ?_
      refine X_aload_n dX5_readCheck_40 rfl ?_
      refine X_getfield (ci := 5) (k := 1) (v := vr (V2 x0 1)) dX5_readCheck_41 rfl (by decide) kf_RX5_14 rfl (hc3.1 c4).1 ?_
      refine X_getfield (ci := 1) (k := 2) (v := vi (V2 (V2 x0 1) 2)) dX5_readCheck_44 rfl (by decide) kf_RX5_35 rfl (hc3.1 c4).2.2.1 ?_
      refine X_iastore dX5_readCheck_47 (hc3.1 c4).2.2.2.1 (hc3.1 c4).2.2.2.2.1 (hc3.1 c4).2.2.2.2.2.1 ?_
      refine X_aload_n dX5_readCheck_48 rfl ?_
      refine X_getfield (ci := 5) (k := 4) (v := vr (V2 x0 4)) dX5_readCheck_49 rfl (by decide) kf_RX5_106 (congrArg vr (up_ne (Or.inl (tag_ne (hc3.1 c4).1 (hc3.1 c4).2.2.2.1 (by decide))))) (hc3.1 c4).1 ?_
      refine X_dup dX5_readCheck_52 (rv_cat _) ?_
      refine X_getfield (ci := 3) (k := 10) (v := vi (V2 (V2 x0 4) 10)) dX5_readCheck_53 rfl (by decide) kf_RX5_203 (congrArg vi (up_ne (Or.inl (tag_ne (hc3.1 c4).2.1 (hc3.1 c4).2.2.2.1 (by decide))))) (hc3.1 c4).2.1 ?_
      refine X_iconst dX5_readCheck_56 (by decide) ?_
      refine X_iaddN dX5_readCheck_57 (hc3.1 c4).2.2.2.2.2.2.1 (hc3.1 c4).2.2.2.2.2.2.2.1 ?_
      refine X_putfield (ci := 3) (k := 10) (z := ((V2 (V2 x0 4) 10) + 1)) dX5_readCheck_58 rfl (by decide) kf_RX5_203 (Or.inl rfl) (Or.inl rfl) rfl (fun hv => hv) (hc3.1 c4).2.1 ?_
      refine X_aload_n dX5_readCheck_61 rfl ?_
      refine X_iconst dX5_readCheck_62 (by decide) ?_
      refine X_invV (ci := 5) (as := [vi 0]) (st := []) okX5_readSum dX5_readCheck_63 km_RX5_144 rfl rfl (Nat.le_of_ble_eq_true rfl) rfl rfl (hc3.1 c4).1 (CT.imp (hc3.1 c4).2.2.2.2.2.2.2.2 (fun z5 S5 V5 mc5 ms5 hc6 => ?_))
      refine X_if_eq dX5_readCheck_66 (tgt := 82) rfl (fun c7 => ?_) (fun c7 => ?_)
      · refine X_iconst dX5_readCheck_82 (by decide) ?_
        exact X_ret (z := 0) dX5_readCheck_83 rfl (fun _ => Or.inl rfl) (hc6.1 c7)
      · refine X_aload_n dX5_readCheck_69 rfl ?_
        refine X_bipush dX5_readCheck_70 (by decide) (by decide) ?_
        refine X_invV (ci := 5) (as := [vi 59]) (st := []) okX5_accept dX5_readCheck_72 km_RX5_117 rfl rfl (Nat.le_of_ble_eq_true rfl) rfl rfl (hc6.2 c7).1 (CT.imp (hc6.2 c7).2 (fun z8 S8 V8 mc8 ms8 hc9 => ?_))
        refine X_if_eq dX5_readCheck_75 (tgt := 82) rfl (fun c10 => ?_) (fun c10 => ?_)
        · refine X_iconst dX5_readCheck_82 (by decide) ?_
          exact X_ret (z := 0) dX5_readCheck_83 rfl (fun _ => Or.inl rfl) (hc9.1 c10)
        · refine X_iconst dX5_readCheck_78 (by decide) ?_
          refine X_goto dX5_readCheck_79 (tgt := 83) rfl ?_
          exact X_ret (z := 1) dX5_readCheck_83 rfl (fun _ => Or.inr rfl) (hc9.2 c10)
    · refine X_iconst dX5_readCheck_24 (by decide) ?_
      exact X_ret (z := 0) dX5_readCheck_25 rfl (fun _ => Or.inl rfl) (hc3.2 c4)
  · refine X_iconst dX5_readCheck_12 (by decide) ?_
    refine X_goto dX5_readCheck_13 (tgt := 17) rfl ?_
    refine X_iconst dX5_readCheck_17 (by decide) ?_
    refine X_invV (ci := 5) (as := [vi 1, vi 5]) (st := []) okX5_pass dX5_readCheck_18 km_RX5_48 rfl rfl (Nat.le_of_ble_eq_true rfl) rfl rfl h.1 (CT.imp (h.2.2.2 c1) (fun z11 S11 V11 mc11 ms11 hc12 => ?_))
    refine X_if_ne dX5_readCheck_21 (tgt := 26) rfl (fun c13 => ?_) (fun c13 => ?_)
    · refine X_aload_n dX5_readCheck_26 rfl ?_
      refine X_getfield (ci := 5) (k := 4) (v := vr (V11 x0 4)) dX5_readCheck_27 rfl (by decide) kf_RX5_106 rfl (hc12.1 c13).1 ?_
      refine X_getfield (ci := 3) (k := 9) (v := vr (V11 (V11 x0 4) 9)) dX5_readCheck_30 rfl (by decide) kf_RX5_206 rfl (hc12.1 c13).2.1 ?_
      refine X_aload_n dX5_readCheck_33 rfl ?_
      refine X_getfield (ci := 5) (k := 4) (v := vr (V11 x0 4)) dX5_readCheck_34 rfl (by decide) kf_RX5_106 rfl (hc12.1 c13).1 ?_
      refine X_getfield (ci := 3) (k := 10) (v := vi (V11 (V11 x0 4) 10)) dX5_readCheck_37 rfl (by decide) kf_RX5_203 rfl (hc12.1 c13).2.1 ?_
      refine X_aload_n dX5_readCheck_40 rfl ?_
      refine X_getfield (ci := 5) (k := 1) (v := vr (V11 x0 1)) dX5_readCheck_41 rfl (by decide) kf_RX5_14 rfl (hc12.1 c13).1 ?_
      refine X_getfield (ci := 1) (k := 2) (v := vi (V11 (V11 x0 1) 2)) dX5_readCheck_44 rfl (by decide) kf_RX5_35 rfl (hc12.1 c13).2.2.1 ?_
      refine X_iastore dX5_readCheck_47 (hc12.1 c13).2.2.2.1 (hc12.1 c13).2.2.2.2.1 (hc12.1 c13).2.2.2.2.2.1 ?_
      refine X_aload_n dX5_readCheck_48 rfl ?_
      refine X_getfield (ci := 5) (k := 4) (v := vr (V11 x0 4)) dX5_readCheck_49 rfl (by decide) kf_RX5_106 (congrArg vr (up_ne (Or.inl (tag_ne (hc12.1 c13).1 (hc12.1 c13).2.2.2.1 (by decide))))) (hc12.1 c13).1 ?_
      refine X_dup dX5_readCheck_52 (rv_cat _) ?_
      refine X_getfield (ci := 3) (k := 10) (v := vi (V11 (V11 x0 4) 10)) dX5_readCheck_53 rfl (by decide) kf_RX5_203 (congrArg vi (up_ne (Or.inl (tag_ne (hc12.1 c13).2.1 (hc12.1 c13).2.2.2.1 (by decide))))) (hc12.1 c13).2.1 ?_
      refine X_iconst dX5_readCheck_56 (by decide) ?_
      refine X_iaddN dX5_readCheck_57 (hc12.1 c13).2.2.2.2.2.2.1 (hc12.1 c13).2.2.2.2.2.2.2.1 ?_
      refine X_putfield (ci := 3) (k := 10) (z := ((V11 (V11 x0 4) 10) + 1)) dX5_readCheck_58 rfl (by decide) kf_RX5_203 (Or.inl rfl) (Or.inl rfl) rfl (fun hv => hv) (hc12.1 c13).2.1 ?_
      refine X_aload_n dX5_readCheck_61 rfl ?_
      refine X_iconst dX5_readCheck_62 (by decide) ?_
      refine X_invV (ci := 5) (as := [vi 0]) (st := []) okX5_readSum dX5_readCheck_63 km_RX5_144 rfl rfl (Nat.le_of_ble_eq_true rfl) rfl rfl (hc12.1 c13).1 (CT.imp (hc12.1 c13).2.2.2.2.2.2.2.2 (fun z14 S14 V14 mc14 ms14 hc15 => ?_))
      refine X_if_eq dX5_readCheck_66 (tgt := 82) rfl (fun c16 => ?_) (fun c16 => ?_)
      · refine X_iconst dX5_readCheck_82 (by decide) ?_
        exact X_ret (z := 0) dX5_readCheck_83 rfl (fun _ => Or.inl rfl) (hc15.1 c16)
      · refine X_aload_n dX5_readCheck_69 rfl ?_
        refine X_bipush dX5_readCheck_70 (by decide) (by decide) ?_
        refine X_invV (ci := 5) (as := [vi 59]) (st := []) okX5_accept dX5_readCheck_72 km_RX5_117 rfl rfl (Nat.le_of_ble_eq_true rfl) rfl rfl (hc15.2 c16).1 (CT.imp (hc15.2 c16).2 (fun z17 S17 V17 mc17 ms17 hc18 => ?_))
        refine X_if_eq dX5_readCheck_75 (tgt := 82) rfl (fun c19 => ?_) (fun c19 => ?_)
        · refine X_iconst dX5_readCheck_82 (by decide) ?_
          exact X_ret (z := 0) dX5_readCheck_83 rfl (fun _ => Or.inl rfl) (hc18.1 c19)
        · refine X_iconst dX5_readCheck_78 (by decide) ?_
          refine X_goto dX5_readCheck_79 (tgt := 83) rfl ?_
          exact X_ret (z := 1) dX5_readCheck_83 rfl (fun _ => Or.inr rfl) (hc18.2 c19)
    · refine X_iconst dX5_readCheck_24 (by decide) ?_
      exact X_ret (z := 0) dX5_readCheck_25 rfl (fun _ => Or.inl rfl) (hc12.2 c13)
theorem qX5_readCheck {l : Launch} {G : GT} {Q : Int → Sh → Mem → Prop} {d : Nat} {S : Sh} {V : Mem} {mc ms : Nat} {x0 : Int} (h : 0 ≤ x0 → XJ l G bX5_readCheck Q d 0 [vr x0] [] S V mc ms) : Ct l G bX5_readCheck Q d mc ms [vr x0] S V := Ct.of okX5_readCheck.1 trivial (Nat.le_of_ble_eq_true rfl) (fun hv => h (hv _ (List.mem_of_getElem? (i := 0) rfl)))
set_option maxRecDepth 10000 in
theorem vX5_readHolder_0 {l : Launch} {G : GT} {Q : Int → Sh → Mem → Prop} {d : Nat} {S : Sh} {V : Mem} {mc ms : Nat} {x0 : Int} (h : S.1 x0 = 6 ∧ S.1 (V x0 4) = 4 ∧ (4 ≤ (V (V x0 4) 14) → CT l G bX5_acceptMember d mc ms [vr x0, vi 0] S V (fun z2 S2 V2 mc2 ms2 => (z2 ≠ 0 → S2.1 x0 = 6 ∧ S2.1 (V2 x0 4) = 4 ∧ S2.1 (V2 (V2 x0 4) 11) = 22 ∧ 0 ≤ (V2 (V2 x0 4) 14) ∧ (V2 (V2 x0 4) 14) < S2.2.1 (V2 (V2 x0 4) 11) ∧ S2.1 (V2 x0 1) = 2 ∧ S2.1 (V2 (V2 x0 4) 12) = 20 ∧ (V2 (V2 x0 4) 14) < S2.2.1 (V2 (V2 x0 4) 12) ∧ -2147483648 ≤ (V2 (V2 x0 4) 14) + 1 ∧ (V2 (V2 x0 4) 14) + 1 ≤ 2147483647 ∧ CT l G bX5_accept d mc2 ms2 [vr x0, vi 61] S2 (up (up (up V2 (V2 (V2 x0 4) 11) (V2 (V2 x0 4) 14) (V2 x0 9)) (V2 (V2 x0 4) 12) (V2 (V2 x0 4) 14) (V2 (V2 x0 1) 2)) (V2 x0 4) 14 ((V2 (V2 x0 4) 14) + 1)) (fun z5 S5 V5 mc5 ms5 => (z5 = 0 → Q 0 S5 V5) ∧ (¬ (z5 = 0) → S5.1 x0 = 6 ∧ CT l G bX5_readSum d mc5 ms5 [vr x0, vi 0] S5 V5 (fun z8 S8 V8 mc8 ms8 => (z8 = 0 → Q 0 S8 V8) ∧ (¬ (z8 = 0) → S8.1 x0 = 6 ∧ CT l G bX5_accept d mc8 ms8 [vr x0, vi 59] S8 V8 (fun z11 S11 V11 mc11 ms11 => (z11 = 0 → Q 0 S11 V11) ∧ (¬ (z11 = 0) → Q 1 S11 V11))))))) ∧ (¬ (z2 ≠ 0) → Q 0 S2 V2))) ∧ (¬ (4 ≤ (V (V x0 4) 14)) → CT l G bX5_acceptMember d mc ms [vr x0, vi 1] S V (fun z14 S14 V14 mc14 ms14 => (z14 ≠ 0 → S14.1 x0 = 6 ∧ S14.1 (V14 x0 4) = 4 ∧ S14.1 (V14 (V14 x0 4) 11) = 22 ∧ 0 ≤ (V14 (V14 x0 4) 14) ∧ (V14 (V14 x0 4) 14) < S14.2.1 (V14 (V14 x0 4) 11) ∧ S14.1 (V14 x0 1) = 2 ∧ S14.1 (V14 (V14 x0 4) 12) = 20 ∧ (V14 (V14 x0 4) 14) < S14.2.1 (V14 (V14 x0 4) 12) ∧ -2147483648 ≤ (V14 (V14 x0 4) 14) + 1 ∧ (V14 (V14 x0 4) 14) + 1 ≤ 2147483647 ∧ CT l G bX5_accept d mc14 ms14 [vr x0, vi 61] S14 (up (up (up V14 (V14 (V14 x0 4) 11) (V14 (V14 x0 4) 14) (V14 x0 9)) (V14 (V14 x0 4) 12) (V14 (V14 x0 4) 14) (V14 (V14 x0 1) 2)) (V14 x0 4) 14 ((V14 (V14 x0 4) 14) + 1)) (fun z17 S17 V17 mc17 ms17 => (z17 = 0 → Q 0 S17 V17) ∧ (¬ (z17 = 0) → S17.1 x0 = 6 ∧ CT l G bX5_readSum d mc17 ms17 [vr x0, vi 0] S17 V17 (fun z20 S20 V20 mc20 ms20 => (z20 = 0 → Q 0 S20 V20) ∧ (¬ (z20 = 0) → S20.1 x0 = 6 ∧ CT l G bX5_accept d mc20 ms20 [vr x0, vi 59] S20 V20 (fun z23 S23 V23 mc23 ms23 => (z23 = 0 → Q 0 S23 V23) ∧ (¬ (z23 = 0) → Q 1 S23 V23))))))) ∧ (¬ (z14 ≠ 0) → Q 0 S14 V14)))) : XJ l G bX5_readHolder Q d 0 [vr x0] [] S V mc ms := by
  refine X_aload_n dX5_readHolder_0 rfl ?_
  refine X_aload_n dX5_readHolder_1 rfl ?_
  refine X_getfield (ci := 5) (k := 4) (v := vr (V x0 4)) dX5_readHolder_2 rfl (by decide) kf_RX5_106 rfl h.1 ?_
  refine X_getfield (ci := 3) (k := 14) (v := vi (V (V x0 4) 14)) dX5_readHolder_5 rfl (by decide) kf_RX5_209 rfl h.2.1 ?_
  refine X_iconst dX5_readHolder_8 (by decide) ?_
  refine X_icmp_ge dX5_readHolder_9 (tgt := 16) rfl (fun c1 => ?_) (fun c1 => ?_)
  · refine X_iconst dX5_readHolder_16 (by decide) ?_
    refine X_invV (ci := 5) (as := [vi 0]) (st := []) okX5_acceptMember dX5_readHolder_17 km_RX5_179 rfl rfl (Nat.le_of_ble_eq_true rfl) rfl rfl h.1 (CT.imp (h.2.2.1 c1) (fun z2 S2 V2 mc2 ms2 hc3 => ?_))
    refine X_if_ne dX5_readHolder_20 (tgt := 25) rfl (fun c4 => ?_) (fun c4 => ?_)
    · refine X_aload_n dX5_readHolder_25 rfl ?_
      refine X_getfield (ci := 5) (k := 4) (v := vr (V2 x0 4)) dX5_readHolder_26 rfl (by decide) kf_RX5_106 rfl (hc3.1 c4).1 ?_
      refine X_getfield (ci := 3) (k := 11) (v := vr (V2 (V2 x0 4) 11)) dX5_readHolder_29 rfl (by decide) kf_RX5_212 rfl (hc3.1 c4).2.1 ?_
      refine X_aload_n dX5_readHolder_32 rfl ?_
      refine X_getfield (ci := 5) (k := 4) (v := vr (V2 x0 4)) dX5_readHolder_33 rfl (by decide) kf_RX5_106 rfl (hc3.1 c4).1 ?_
      refine X_getfield (ci := 3) (k := 14) (v := vi (V2 (V2 x0 4) 14)) dX5_readHolder_36 rfl (by decide) kf_RX5_209 rfl (hc3.1 c4).2.1 ?_
      refine X_aload_n dX5_readHolder_39 rfl ?_
      refine X_getfield (ci := 5) (k := 9) (v := vl (V2 x0 9)) dX5_readHolder_40 rfl (by decide) kf_RX5_100 rfl (hc3.1 c4).1 ?_
      refine X_lastore dX5_readHolder_43 (hc3.1 c4).2.2.1 (hc3.1 c4).2.2.2.1 (hc3.1 c4).2.2.2.2.1 ?_
      refine X_aload_n dX5_readHolder_44 rfl ?_
      refine X_getfield (ci := 5) (k := 4) (v := vr (V2 x0 4)) dX5_readHolder_45 rfl (by decide) kf_RX5_106 (congrArg vr (up_ne (Or.inl (tag_ne (hc3.1 c4).1 (hc3.1 c4).2.2.1 (by decide))))) (hc3.1 c4).1 ?_
      refine X_getfield (ci := 3) (k := 12) (v := vr (V2 (V2 x0 4) 12)) dX5_readHolder_48 rfl (by decide) kf_RX5_215 (congrArg vr (up_ne (Or.inl (tag_ne (hc3.1 c4).2.1 (hc3.1 c4).2.2.1 (by decide))))) (hc3.1 c4).2.1 ?_
      refine X_aload_n dX5_readHolder_51 rfl ?_
      refine X_getfield (ci := 5) (k := 4) (v := vr (V2 x0 4)) dX5_readHolder_52 rfl (by decide) kf_RX5_106 (congrArg vr (up_ne (Or.inl (tag_ne (hc3.1 c4).1 (hc3.1 c4).2.2.1 (by decide))))) (hc3.1 c4).1 ?_
      refine X_getfield (ci := 3) (k := 14) (v := vi (V2 (V2 x0 4) 14)) dX5_readHolder_55 rfl (by decide) kf_RX5_209 (congrArg vi (up_ne (Or.inl (tag_ne (hc3.1 c4).2.1 (hc3.1 c4).2.2.1 (by decide))))) (hc3.1 c4).2.1 ?_
      refine X_aload_n dX5_readHolder_58 rfl ?_
      refine X_getfield (ci := 5) (k := 1) (v := vr (V2 x0 1)) dX5_readHolder_59 rfl (by decide) kf_RX5_14 (congrArg vr (up_ne (Or.inl (tag_ne (hc3.1 c4).1 (hc3.1 c4).2.2.1 (by decide))))) (hc3.1 c4).1 ?_
      refine X_getfield (ci := 1) (k := 2) (v := vi (V2 (V2 x0 1) 2)) dX5_readHolder_62 rfl (by decide) kf_RX5_35 (congrArg vi (up_ne (Or.inl (tag_ne (hc3.1 c4).2.2.2.2.2.1 (hc3.1 c4).2.2.1 (by decide))))) (hc3.1 c4).2.2.2.2.2.1 ?_
      refine X_iastore dX5_readHolder_65 (hc3.1 c4).2.2.2.2.2.2.1 (hc3.1 c4).2.2.2.1 (hc3.1 c4).2.2.2.2.2.2.2.1 ?_
      refine X_aload_n dX5_readHolder_66 rfl ?_
      refine X_getfield (ci := 5) (k := 4) (v := vr (V2 x0 4)) dX5_readHolder_67 rfl (by decide) kf_RX5_106 (congrArg vr ((up_ne (Or.inl (tag_ne (hc3.1 c4).1 (hc3.1 c4).2.2.2.2.2.2.1 (by decide)))).trans (up_ne (Or.inl (tag_ne (hc3.1 c4).1 (hc3.1 c4).2.2.1 (by decide)))))) (hc3.1 c4).1 ?_
      refine X_dup dX5_readHolder_70 (rv_cat _) ?_
      refine X_getfield (ci := 3) (k := 14) (v := vi (V2 (V2 x0 4) 14)) dX5_readHolder_71 rfl (by decide) kf_RX5_209 (congrArg vi ((up_ne (Or.inl (tag_ne (hc3.1 c4).2.1 (hc3.1 c4).2.2.2.2.2.2.1 (by decide)))).trans (up_ne (Or.inl (tag_ne (hc3.1 c4).2.1 (hc3.1 c4).2.2.1 (by decide)))))) (hc3.1 c4).2.1 ?_
      refine X_iconst dX5_readHolder_74 (by decide) ?_
      refine X_iaddN dX5_readHolder_75 (hc3.1 c4).2.2.2.2.2.2.2.2.1 (hc3.1 c4).2.2.2.2.2.2.2.2.2.1 ?_
      refine X_putfield (ci := 3) (k := 14) (z := ((V2 (V2 x0 4) 14) + 1)) dX5_readHolder_76 rfl (by decide) kf_RX5_209 (Or.inl rfl) (Or.inl rfl) rfl (fun hv => hv) (hc3.1 c4).2.1 ?_
      refine X_aload_n dX5_readHolder_79 rfl ?_
      refine X_bipush dX5_readHolder_80 (by decide) (by decide) ?_
      refine X_invV (ci := 5) (as := [vi 61]) (st := []) okX5_accept dX5_readHolder_82 km_RX5_117 rfl rfl (Nat.le_of_ble_eq_true rfl) rfl rfl (hc3.1 c4).1 (CT.imp (hc3.1 c4).2.2.2.2.2.2.2.2.2.2 (fun z5 S5 V5 mc5 ms5 hc6 => ?_))
      refine X_if_eq dX5_readHolder_85 (tgt := 109) rfl (fun c7 => ?_) (fun c7 => ?_)
      · refine X_iconst dX5_readHolder_109 (by decide) ?_
        exact X_ret (z := 0) dX5_readHolder_110 rfl (fun _ => Or.inl rfl) (hc6.1 c7)
      · refine X_aload_n dX5_readHolder_88 rfl ?_
        refine X_iconst dX5_readHolder_89 (by decide) ?_
        refine X_invV (ci := 5) (as := [vi 0]) (st := []) okX5_readSum dX5_readHolder_90 km_RX5_144 rfl rfl (Nat.le_of_ble_eq_true rfl) rfl rfl (hc6.2 c7).1 (CT.imp (hc6.2 c7).2 (fun z8 S8 V8 mc8 ms8 hc9 => ?_))
        refine X_if_eq dX5_readHolder_93 (tgt := 109) rfl (fun c10 => ?_) (fun c10 => ?_)
        · refine X_iconst dX5_readHolder_109 (by decide) ?_
          exact X_ret (z := 0) dX5_readHolder_110 rfl (fun _ => Or.inl rfl) (hc9.1 c10)
        · refine X_aload_n dX5_readHolder_96 rfl ?_
          refine X_bipush dX5_readHolder_97 (by decide) (by decide) ?_
          refine X_invV (ci := 5) (as := [vi 59]) (st := []) okX5_accept dX5_readHolder_99 km_RX5_117 rfl rfl (Nat.le_of_ble_eq_true rfl) rfl rfl (hc9.2 c10).1 (CT.imp (hc9.2 c10).2 (fun z11 S11 V11 mc11 ms11 hc12 => ?_))
          refine X_if_eq dX5_readHolder_102 (tgt := 109) rfl (fun c13 => ?_) (fun c13 => ?_)
          · refine X_iconst dX5_readHolder_109 (by decide) ?_
            exact X_ret (z := 0) dX5_readHolder_110 rfl (fun _ => Or.inl rfl) (hc12.1 c13)
          · refine X_iconst dX5_readHolder_105 (by decide) ?_
            refine X_goto dX5_readHolder_106 (tgt := 110) rfl ?_
            exact X_ret (z := 1) dX5_readHolder_110 rfl (fun _ => Or.inr rfl) (hc12.2 c13)
    · refine X_iconst dX5_readHolder_23 (by decide) ?_
      exact X_ret (z := 0) dX5_readHolder_24 rfl (fun _ => Or.inl rfl) (hc3.2 c4)
  · refine X_iconst dX5_readHolder_12 (by decide) ?_
    refine X_goto dX5_readHolder_13 (tgt := 17) rfl ?_
    refine X_invV (ci := 5) (as := [vi 1]) (st := []) okX5_acceptMember dX5_readHolder_17 km_RX5_179 rfl rfl (Nat.le_of_ble_eq_true rfl) rfl rfl h.1 (CT.imp (h.2.2.2 c1) (fun z14 S14 V14 mc14 ms14 hc15 => ?_))
    refine X_if_ne dX5_readHolder_20 (tgt := 25) rfl (fun c16 => ?_) (fun c16 => ?_)
    · refine X_aload_n dX5_readHolder_25 rfl ?_
      refine X_getfield (ci := 5) (k := 4) (v := vr (V14 x0 4)) dX5_readHolder_26 rfl (by decide) kf_RX5_106 rfl (hc15.1 c16).1 ?_
      refine X_getfield (ci := 3) (k := 11) (v := vr (V14 (V14 x0 4) 11)) dX5_readHolder_29 rfl (by decide) kf_RX5_212 rfl (hc15.1 c16).2.1 ?_
      refine X_aload_n dX5_readHolder_32 rfl ?_
      refine X_getfield (ci := 5) (k := 4) (v := vr (V14 x0 4)) dX5_readHolder_33 rfl (by decide) kf_RX5_106 rfl (hc15.1 c16).1 ?_
      refine X_getfield (ci := 3) (k := 14) (v := vi (V14 (V14 x0 4) 14)) dX5_readHolder_36 rfl (by decide) kf_RX5_209 rfl (hc15.1 c16).2.1 ?_
      refine X_aload_n dX5_readHolder_39 rfl ?_
      refine X_getfield (ci := 5) (k := 9) (v := vl (V14 x0 9)) dX5_readHolder_40 rfl (by decide) kf_RX5_100 rfl (hc15.1 c16).1 ?_
      refine X_lastore dX5_readHolder_43 (hc15.1 c16).2.2.1 (hc15.1 c16).2.2.2.1 (hc15.1 c16).2.2.2.2.1 ?_
      refine X_aload_n dX5_readHolder_44 rfl ?_
      refine X_getfield (ci := 5) (k := 4) (v := vr (V14 x0 4)) dX5_readHolder_45 rfl (by decide) kf_RX5_106 (congrArg vr (up_ne (Or.inl (tag_ne (hc15.1 c16).1 (hc15.1 c16).2.2.1 (by decide))))) (hc15.1 c16).1 ?_
      refine X_getfield (ci := 3) (k := 12) (v := vr (V14 (V14 x0 4) 12)) dX5_readHolder_48 rfl (by decide) kf_RX5_215 (congrArg vr (up_ne (Or.inl (tag_ne (hc15.1 c16).2.1 (hc15.1 c16).2.2.1 (by decide))))) (hc15.1 c16).2.1 ?_
      refine X_aload_n dX5_readHolder_51 rfl ?_
      refine X_getfield (ci := 5) (k := 4) (v := vr (V14 x0 4)) dX5_readHolder_52 rfl (by decide) kf_RX5_106 (congrArg vr (up_ne (Or.inl (tag_ne (hc15.1 c16).1 (hc15.1 c16).2.2.1 (by decide))))) (hc15.1 c16).1 ?_
      refine X_getfield (ci := 3) (k := 14) (v := vi (V14 (V14 x0 4) 14)) dX5_readHolder_55 rfl (by decide) kf_RX5_209 (congrArg vi (up_ne (Or.inl (tag_ne (hc15.1 c16).2.1 (hc15.1 c16).2.2.1 (by decide))))) (hc15.1 c16).2.1 ?_
      refine X_aload_n dX5_readHolder_58 rfl ?_
      refine X_getfield (ci := 5) (k := 1) (v := vr (V14 x0 1)) dX5_readHolder_59 rfl (by decide) kf_RX5_14 (congrArg vr (up_ne (Or.inl (tag_ne (hc15.1 c16).1 (hc15.1 c16).2.2.1 (by decide))))) (hc15.1 c16).1 ?_
      refine X_getfield (ci := 1) (k := 2) (v := vi (V14 (V14 x0 1) 2)) dX5_readHolder_62 rfl (by decide) kf_RX5_35 (congrArg vi (up_ne (Or.inl (tag_ne (hc15.1 c16).2.2.2.2.2.1 (hc15.1 c16).2.2.1 (by decide))))) (hc15.1 c16).2.2.2.2.2.1 ?_
      refine X_iastore dX5_readHolder_65 (hc15.1 c16).2.2.2.2.2.2.1 (hc15.1 c16).2.2.2.1 (hc15.1 c16).2.2.2.2.2.2.2.1 ?_
      refine X_aload_n dX5_readHolder_66 rfl ?_
      refine X_getfield (ci := 5) (k := 4) (v := vr (V14 x0 4)) dX5_readHolder_67 rfl (by decide) kf_RX5_106 (congrArg vr ((up_ne (Or.inl (tag_ne (hc15.1 c16).1 (hc15.1 c16).2.2.2.2.2.2.1 (by decide)))).trans (up_ne (Or.inl (tag_ne (hc15.1 c16).1 (hc15.1 c16).2.2.1 (by decide)))))) (hc15.1 c16).1 ?_
      refine X_dup dX5_readHolder_70 (rv_cat _) ?_
      refine X_getfield (ci := 3) (k := 14) (v := vi (V14 (V14 x0 4) 14)) dX5_readHolder_71 rfl (by decide) kf_RX5_209 (congrArg vi ((up_ne (Or.inl (tag_ne (hc15.1 c16).2.1 (hc15.1 c16).2.2.2.2.2.2.1 (by decide)))).trans (up_ne (Or.inl (tag_ne (hc15.1 c16).2.1 (hc15.1 c16).2.2.1 (by decide)))))) (hc15.1 c16).2.1 ?_
      refine X_iconst dX5_readHolder_74 (by decide) ?_
      refine X_iaddN dX5_readHolder_75 (hc15.1 c16).2.2.2.2.2.2.2.2.1 (hc15.1 c16).2.2.2.2.2.2.2.2.2.1 ?_
      refine X_putfield (ci := 3) (k := 14) (z := ((V14 (V14 x0 4) 14) + 1)) dX5_readHolder_76 rfl (by decide) kf_RX5_209 (Or.inl rfl) (Or.inl rfl) rfl (fun hv => hv) (hc15.1 c16).2.1 ?_
      refine X_aload_n dX5_readHolder_79 rfl ?_
      refine X_bipush dX5_readHolder_80 (by decide) (by decide) ?_
      refine X_invV (ci := 5) (as := [vi 61]) (st := []) okX5_accept dX5_readHolder_82 km_RX5_117 rfl rfl (Nat.le_of_ble_eq_true rfl) rfl rfl (hc15.1 c16).1 (CT.imp (hc15.1 c16).2.2.2.2.2.2.2.2.2.2 (fun z17 S17 V17 mc17 ms17 hc18 => ?_))
      refine X_if_eq dX5_readHolder_85 (tgt := 109) rfl (fun c19 => ?_) (fun c19 => ?_)
      · refine X_iconst dX5_readHolder_109 (by decide) ?_
        exact X_ret (z := 0) dX5_readHolder_110 rfl (fun _ => Or.inl rfl) (hc18.1 c19)
      · refine X_aload_n dX5_readHolder_88 rfl ?_
        refine X_iconst dX5_readHolder_89 (by decide) ?_
        refine X_invV (ci := 5) (as := [vi 0]) (st := []) okX5_readSum dX5_readHolder_90 km_RX5_144 rfl rfl (Nat.le_of_ble_eq_true rfl) rfl rfl (hc18.2 c19).1 (CT.imp (hc18.2 c19).2 (fun z20 S20 V20 mc20 ms20 hc21 => ?_))
        refine X_if_eq dX5_readHolder_93 (tgt := 109) rfl (fun c22 => ?_) (fun c22 => ?_)
        · refine X_iconst dX5_readHolder_109 (by decide) ?_
          exact X_ret (z := 0) dX5_readHolder_110 rfl (fun _ => Or.inl rfl) (hc21.1 c22)
        · refine X_aload_n dX5_readHolder_96 rfl ?_
          refine X_bipush dX5_readHolder_97 (by decide) (by decide) ?_
          refine X_invV (ci := 5) (as := [vi 59]) (st := []) okX5_accept dX5_readHolder_99 km_RX5_117 rfl rfl (Nat.le_of_ble_eq_true rfl) rfl rfl (hc21.2 c22).1 (CT.imp (hc21.2 c22).2 (fun z23 S23 V23 mc23 ms23 hc24 => ?_))
          refine X_if_eq dX5_readHolder_102 (tgt := 109) rfl (fun c25 => ?_) (fun c25 => ?_)
          · refine X_iconst dX5_readHolder_109 (by decide) ?_
            exact X_ret (z := 0) dX5_readHolder_110 rfl (fun _ => Or.inl rfl) (hc24.1 c25)
          · refine X_iconst dX5_readHolder_105 (by decide) ?_
            refine X_goto dX5_readHolder_106 (tgt := 110) rfl ?_
            exact X_ret (z := 1) dX5_readHolder_110 rfl (fun _ => Or.inr rfl) (hc24.2 c25)
    · refine X_iconst dX5_readHolder_23 (by decide) ?_
      exact X_ret (z := 0) dX5_readHolder_24 rfl (fun _ => Or.inl rfl) (hc15.2 c16)
theorem qX5_readHolder {l : Launch} {G : GT} {Q : Int → Sh → Mem → Prop} {d : Nat} {S : Sh} {V : Mem} {mc ms : Nat} {x0 : Int} (h : 0 ≤ x0 → XJ l G bX5_readHolder Q d 0 [vr x0] [] S V mc ms) : Ct l G bX5_readHolder Q d mc ms [vr x0] S V := Ct.of okX5_readHolder.1 trivial (Nat.le_of_ble_eq_true rfl) (fun hv => h (hv _ (List.mem_of_getElem? (i := 0) rfl)))
set_option maxRecDepth 10000 in
theorem vX5_readSwitch_0 {l : Launch} {G : GT} {Q : Int → Sh → Mem → Prop} {d : Nat} {S : Sh} {V : Mem} {mc ms : Nat} {x0 : Int} (h : S.1 x0 = 6 ∧ S.1 (V x0 4) = 4 ∧ (3 ≤ (V (V x0 4) 16) → CT l G bX5_acceptMember d mc ms [vr x0, vi 0] S V (fun z2 S2 V2 mc2 ms2 => (z2 ≠ 0 → 1 ≤ mc2 ∧ 5 ≤ ms2 ∧ (∀ (S5 : Sh) (V5 : Mem) (r5 : Int) (mc5 ms5 : Nat), r5 = S2.2.2 + 1 → S5 = nw S2 8 0 → V5 = clr V2 r5 → mc5 = mc2 - 1 → ms5 = ms2 - 5 → S5.1 x0 = 6 ∧ r5 ≠ 0 ∧ CT l G bX7_init d mc5 ms5 [vr r5, vl (V5 x0 9)] S5 V5 (fun z7 S7 V7 mc7 ms7 => S7.1 x0 = 6 ∧ S7.1 (V7 x0 4) = 4 ∧ S7.1 (V7 (V7 x0 4) 15) = 37 ∧ S7.1 r5 = 8 ∧ 0 ≤ (V7 (V7 x0 4) 16) ∧ (V7 (V7 x0 4) 16) < S7.2.1 (V7 (V7 x0 4) 15) ∧ -2147483648 ≤ (V7 (V7 x0 4) 16) + 1 ∧ (V7 (V7 x0 4) 16) + 1 ≤ 2147483647 ∧ CT l G bX5_accept d mc7 ms7 [vr x0, vi 123] S7 (up (up V7 (V7 (V7 x0 4) 15) (V7 (V7 x0 4) 16) r5) (V7 x0 4) 16 ((V7 (V7 x0 4) 16) + 1)) (fun z9 S9 V9 mc9 ms9 => XJ l G bX5_readSwitch Q d 75 [vr x0, vr r5, vi z9, vi 0] [] S9 V9 mc9 ms9)))) ∧ (¬ (z2 ≠ 0) → Q 0 S2 V2))) ∧ (¬ (3 ≤ (V (V x0 4) 16)) → CT l G bX5_acceptMember d mc ms [vr x0, vi 1] S V (fun z11 S11 V11 mc11 ms11 => (z11 ≠ 0 → 1 ≤ mc11 ∧ 5 ≤ ms11 ∧ (∀ (S14 : Sh) (V14 : Mem) (r14 : Int) (mc14 ms14 : Nat), r14 = S11.2.2 + 1 → S14 = nw S11 8 0 → V14 = clr V11 r14 → mc14 = mc11 - 1 → ms14 = ms11 - 5 → S14.1 x0 = 6 ∧ r14 ≠ 0 ∧ CT l G bX7_init d mc14 ms14 [vr r14, vl (V14 x0 9)] S14 V14 (fun z16 S16 V16 mc16 ms16 => S16.1 x0 = 6 ∧ S16.1 (V16 x0 4) = 4 ∧ S16.1 (V16 (V16 x0 4) 15) = 37 ∧ S16.1 r14 = 8 ∧ 0 ≤ (V16 (V16 x0 4) 16) ∧ (V16 (V16 x0 4) 16) < S16.2.1 (V16 (V16 x0 4) 15) ∧ -2147483648 ≤ (V16 (V16 x0 4) 16) + 1 ∧ (V16 (V16 x0 4) 16) + 1 ≤ 2147483647 ∧ CT l G bX5_accept d mc16 ms16 [vr x0, vi 123] S16 (up (up V16 (V16 (V16 x0 4) 15) (V16 (V16 x0 4) 16) r14) (V16 x0 4) 16 ((V16 (V16 x0 4) 16) + 1)) (fun z18 S18 V18 mc18 ms18 => XJ l G bX5_readSwitch Q d 75 [vr x0, vr r14, vi z18, vi 0] [] S18 V18 mc18 ms18)))) ∧ (¬ (z11 ≠ 0) → Q 0 S11 V11)))) : XJ l G bX5_readSwitch Q d 0 [vr x0, vu, vu, vu] [] S V mc ms := by
  refine X_aload_n dX5_readSwitch_0 rfl ?_
  refine X_aload_n dX5_readSwitch_1 rfl ?_
  refine X_getfield (ci := 5) (k := 4) (v := vr (V x0 4)) dX5_readSwitch_2 rfl (by decide) kf_RX5_106 rfl h.1 ?_
  refine X_getfield (ci := 3) (k := 16) (v := vi (V (V x0 4) 16)) dX5_readSwitch_5 rfl (by decide) kf_RX5_218 rfl h.2.1 ?_
  refine X_iconst dX5_readSwitch_8 (by decide) ?_
  refine X_icmp_ge dX5_readSwitch_9 (tgt := 16) rfl (fun c1 => ?_) (fun c1 => ?_)
  · refine X_iconst dX5_readSwitch_16 (by decide) ?_
    refine X_invV (ci := 5) (as := [vi 0]) (st := []) okX5_acceptMember dX5_readSwitch_17 km_RX5_179 rfl rfl (Nat.le_of_ble_eq_true rfl) rfl rfl h.1 (CT.imp (h.2.2.1 c1) (fun z2 S2 V2 mc2 ms2 hc3 => ?_))
    refine X_if_ne dX5_readSwitch_20 (tgt := 25) rfl (fun c4 => ?_) (fun c4 => ?_)
    · refine X_newT (t := 8) (ci := 7) rfl dX5_readSwitch_25 rfl ⟨kc_RX5_221, kn_7⟩ kd_7 (hc3.1 c4).1 (hc3.1 c4).2.1 ?_
      generalize hShn6 : nw S2 8 0 = S5
      generalize hVhn6 : clr V2 (S2.2.2 + 1) = V5
      generalize hrhn6 : S2.2.2 + 1 = r5 at hVhn6 ⊢
      generalize hmhn6 : mc2 - 1 = mc5
      generalize hkhn6 : ms2 - 5 = ms5
      have hn6 := (hc3.1 c4).2.2 S5 V5 r5 mc5 ms5 hrhn6.symm hShn6.symm hVhn6.symm hmhn6.symm hkhn6.symm
      refine X_dup dX5_readSwitch_28 (rv_cat _) ?_
      refine X_aload_n dX5_readSwitch_29 rfl ?_
      refine X_getfield (ci := 5) (k := 9) (v := vl (V5 x0 9)) dX5_readSwitch_30 rfl (by decide) kf_RX5_100 rfl hn6.1 ?_
      refine X_invI (as := [vl (V5 x0 9)]) (st := [vr r5]) okX7_init dX5_readSwitch_33 km_RX5_223 rfl rfl (Nat.le_of_ble_eq_true rfl) hn6.2.1 (CT.imp hn6.2.2 (fun z7 S7 V7 mc7 ms7 hc8 => ?_))
      refine X_astore_n dX5_readSwitch_36 (by decide) rfl ?_
      refine X_aload_n dX5_readSwitch_37 rfl ?_
      refine X_getfield (ci := 5) (k := 4) (v := vr (V7 x0 4)) dX5_readSwitch_38 rfl (by decide) kf_RX5_106 rfl hc8.1 ?_
      refine X_getfield (ci := 3) (k := 15) (v := vr (V7 (V7 x0 4) 15)) dX5_readSwitch_41 rfl (by decide) kf_RX5_224 rfl hc8.2.1 ?_
      refine X_aload_n dX5_readSwitch_44 rfl ?_
      refine X_getfield (ci := 5) (k := 4) (v := vr (V7 x0 4)) dX5_readSwitch_45 rfl (by decide) kf_RX5_106 rfl hc8.1 ?_
      refine X_getfield (ci := 3) (k := 16) (v := vi (V7 (V7 x0 4) 16)) dX5_readSwitch_48 rfl (by decide) kf_RX5_218 rfl hc8.2.1 ?_
      refine X_aload_n dX5_readSwitch_51 rfl ?_
      refine X_aastore (ci := 7) (t := 37) rfl dX5_readSwitch_52 (by decide) rfl hc8.2.2.1 hc8.2.2.2.1 hc8.2.2.2.2.1 hc8.2.2.2.2.2.1 ?_
      refine X_aload_n dX5_readSwitch_53 rfl ?_
      refine X_getfield (ci := 5) (k := 4) (v := vr (V7 x0 4)) dX5_readSwitch_54 rfl (by decide) kf_RX5_106 (congrArg vr (up_ne (Or.inl (tag_ne hc8.1 hc8.2.2.1 (by decide))))) hc8.1 ?_
      refine X_dup dX5_readSwitch_57 (rv_cat _) ?_
      refine X_getfield (ci := 3) (k := 16) (v := vi (V7 (V7 x0 4) 16)) dX5_readSwitch_58 rfl (by decide) kf_RX5_218 (congrArg vi (up_ne (Or.inl (tag_ne hc8.2.1 hc8.2.2.1 (by decide))))) hc8.2.1 ?_
      refine X_iconst dX5_readSwitch_61 (by decide) ?_
      refine X_iaddN dX5_readSwitch_62 hc8.2.2.2.2.2.2.1 hc8.2.2.2.2.2.2.2.1 ?_
      refine X_putfield (ci := 3) (k := 16) (z := ((V7 (V7 x0 4) 16) + 1)) dX5_readSwitch_63 rfl (by decide) kf_RX5_218 (Or.inl rfl) (Or.inl rfl) rfl (fun hv => hv) hc8.2.1 ?_
      refine X_aload_n dX5_readSwitch_66 rfl ?_
      refine X_bipush dX5_readSwitch_67 (by decide) (by decide) ?_
      refine X_invV (ci := 5) (as := [vi 123]) (st := []) okX5_accept dX5_readSwitch_69 km_RX5_117 rfl rfl (Nat.le_of_ble_eq_true rfl) rfl rfl hc8.1 (CT.imp hc8.2.2.2.2.2.2.2.2 (fun z9 S9 V9 mc9 ms9 hc10 => ?_))
      refine X_istore_n dX5_readSwitch_72 (by decide) rfl ?_
      refine X_iconst dX5_readSwitch_73 (by decide) ?_
      refine X_istore_n dX5_readSwitch_74 (by decide) rfl ?_
      exact hc10
    · refine X_iconst dX5_readSwitch_23 (by decide) ?_
      exact X_ret (z := 0) dX5_readSwitch_24 rfl (fun _ => Or.inl rfl) (hc3.2 c4)
  · refine X_iconst dX5_readSwitch_12 (by decide) ?_
    refine X_goto dX5_readSwitch_13 (tgt := 17) rfl ?_
    refine X_invV (ci := 5) (as := [vi 1]) (st := []) okX5_acceptMember dX5_readSwitch_17 km_RX5_179 rfl rfl (Nat.le_of_ble_eq_true rfl) rfl rfl h.1 (CT.imp (h.2.2.2 c1) (fun z11 S11 V11 mc11 ms11 hc12 => ?_))
    refine X_if_ne dX5_readSwitch_20 (tgt := 25) rfl (fun c13 => ?_) (fun c13 => ?_)
    · refine X_newT (t := 8) (ci := 7) rfl dX5_readSwitch_25 rfl ⟨kc_RX5_221, kn_7⟩ kd_7 (hc12.1 c13).1 (hc12.1 c13).2.1 ?_
      generalize hShn15 : nw S11 8 0 = S14
      generalize hVhn15 : clr V11 (S11.2.2 + 1) = V14
      generalize hrhn15 : S11.2.2 + 1 = r14 at hVhn15 ⊢
      generalize hmhn15 : mc11 - 1 = mc14
      generalize hkhn15 : ms11 - 5 = ms14
      have hn15 := (hc12.1 c13).2.2 S14 V14 r14 mc14 ms14 hrhn15.symm hShn15.symm hVhn15.symm hmhn15.symm hkhn15.symm
      refine X_dup dX5_readSwitch_28 (rv_cat _) ?_
      refine X_aload_n dX5_readSwitch_29 rfl ?_
      refine X_getfield (ci := 5) (k := 9) (v := vl (V14 x0 9)) dX5_readSwitch_30 rfl (by decide) kf_RX5_100 rfl hn15.1 ?_
      refine X_invI (as := [vl (V14 x0 9)]) (st := [vr r14]) okX7_init dX5_readSwitch_33 km_RX5_223 rfl rfl (Nat.le_of_ble_eq_true rfl) hn15.2.1 (CT.imp hn15.2.2 (fun z16 S16 V16 mc16 ms16 hc17 => ?_))
      refine X_astore_n dX5_readSwitch_36 (by decide) rfl ?_
      refine X_aload_n dX5_readSwitch_37 rfl ?_
      refine X_getfield (ci := 5) (k := 4) (v := vr (V16 x0 4)) dX5_readSwitch_38 rfl (by decide) kf_RX5_106 rfl hc17.1 ?_
      refine X_getfield (ci := 3) (k := 15) (v := vr (V16 (V16 x0 4) 15)) dX5_readSwitch_41 rfl (by decide) kf_RX5_224 rfl hc17.2.1 ?_
      refine X_aload_n dX5_readSwitch_44 rfl ?_
      refine X_getfield (ci := 5) (k := 4) (v := vr (V16 x0 4)) dX5_readSwitch_45 rfl (by decide) kf_RX5_106 rfl hc17.1 ?_
      refine X_getfield (ci := 3) (k := 16) (v := vi (V16 (V16 x0 4) 16)) dX5_readSwitch_48 rfl (by decide) kf_RX5_218 rfl hc17.2.1 ?_
      refine X_aload_n dX5_readSwitch_51 rfl ?_
      refine X_aastore (ci := 7) (t := 37) rfl dX5_readSwitch_52 (by decide) rfl hc17.2.2.1 hc17.2.2.2.1 hc17.2.2.2.2.1 hc17.2.2.2.2.2.1 ?_
      refine X_aload_n dX5_readSwitch_53 rfl ?_
      refine X_getfield (ci := 5) (k := 4) (v := vr (V16 x0 4)) dX5_readSwitch_54 rfl (by decide) kf_RX5_106 (congrArg vr (up_ne (Or.inl (tag_ne hc17.1 hc17.2.2.1 (by decide))))) hc17.1 ?_
      refine X_dup dX5_readSwitch_57 (rv_cat _) ?_
      refine X_getfield (ci := 3) (k := 16) (v := vi (V16 (V16 x0 4) 16)) dX5_readSwitch_58 rfl (by decide) kf_RX5_218 (congrArg vi (up_ne (Or.inl (tag_ne hc17.2.1 hc17.2.2.1 (by decide))))) hc17.2.1 ?_
      refine X_iconst dX5_readSwitch_61 (by decide) ?_
      refine X_iaddN dX5_readSwitch_62 hc17.2.2.2.2.2.2.1 hc17.2.2.2.2.2.2.2.1 ?_
      refine X_putfield (ci := 3) (k := 16) (z := ((V16 (V16 x0 4) 16) + 1)) dX5_readSwitch_63 rfl (by decide) kf_RX5_218 (Or.inl rfl) (Or.inl rfl) rfl (fun hv => hv) hc17.2.1 ?_
      refine X_aload_n dX5_readSwitch_66 rfl ?_
      refine X_bipush dX5_readSwitch_67 (by decide) (by decide) ?_
      refine X_invV (ci := 5) (as := [vi 123]) (st := []) okX5_accept dX5_readSwitch_69 km_RX5_117 rfl rfl (Nat.le_of_ble_eq_true rfl) rfl rfl hc17.1 (CT.imp hc17.2.2.2.2.2.2.2.2 (fun z18 S18 V18 mc18 ms18 hc19 => ?_))
      refine X_istore_n dX5_readSwitch_72 (by decide) rfl ?_
      refine X_iconst dX5_readSwitch_73 (by decide) ?_
      refine X_istore_n dX5_readSwitch_74 (by decide) rfl ?_
      exact hc19
    · refine X_iconst dX5_readSwitch_23 (by decide) ?_
      exact X_ret (z := 0) dX5_readSwitch_24 rfl (fun _ => Or.inl rfl) (hc12.2 c13)
set_option maxRecDepth 10000 in
theorem vX5_readSwitch_75 {l : Launch} {G : GT} {Q : Int → Sh → Mem → Prop} {d : Nat} {S : Sh} {V : Mem} {mc ms : Nat} {x0 x1 x2 x3 : Int} (h : (12 < x3 → (x2 = 0 → Q 0 S V) ∧ (¬ (x2 = 0) → S.1 x0 = 6 ∧ CT l G bX5_accept d mc ms [vr x0, vi 11] S V (fun z3 S3 V3 mc3 ms3 => (z3 = 0 → Q 0 S3 V3) ∧ (¬ (z3 = 0) → S3.1 x0 = 6 ∧ CT l G bX5_accept d mc3 ms3 [vr x0, vi 58] S3 V3 (fun z6 S6 V6 mc6 ms6 => (z6 ≠ 0 → S6.1 x0 = 6 ∧ S6.1 (V6 x0 1) = 2 ∧ S6.1 x1 = 8 ∧ CT l G bX5_readSum d mc6 ms6 [vr x0, vi 0] S6 (up V6 x1 4 (V6 (V6 x0 1) 2)) (fun z9 S9 V9 mc9 ms9 => (z9 = 0 → Q 0 S9 V9) ∧ (¬ (z9 = 0) → S9.1 x0 = 6 ∧ CT l G bX5_accept d mc9 ms9 [vr x0, vi 59] S9 V9 (fun z12 S12 V12 mc12 ms12 => (z12 = 0 → Q 0 S12 V12) ∧ (¬ (z12 = 0) → S12.1 x0 = 6 ∧ CT l G bX5_accept d mc12 ms12 [vr x0, vi 125] S12 V12 (fun z15 S15 V15 mc15 ms15 => (z15 = 0 → Q 0 S15 V15) ∧ (¬ (z15 = 0) → Q 1 S15 V15))))))) ∧ (¬ (z6 ≠ 0) → Q 0 S6 V6)))))) ∧ (¬ (12 < x3) → (x2 = 0 → (x2 = 0 → Q 0 S V) ∧ (¬ (x2 = 0) → S.1 x0 = 6 ∧ CT l G bX5_accept d mc ms [vr x0, vi 11] S V (fun z20 S20 V20 mc20 ms20 => (z20 = 0 → Q 0 S20 V20) ∧ (¬ (z20 = 0) → S20.1 x0 = 6 ∧ CT l G bX5_accept d mc20 ms20 [vr x0, vi 58] S20 V20 (fun z23 S23 V23 mc23 ms23 => (z23 ≠ 0 → S23.1 x0 = 6 ∧ S23.1 (V23 x0 1) = 2 ∧ S23.1 x1 = 8 ∧ CT l G bX5_readSum d mc23 ms23 [vr x0, vi 0] S23 (up V23 x1 4 (V23 (V23 x0 1) 2)) (fun z26 S26 V26 mc26 ms26 => (z26 = 0 → Q 0 S26 V26) ∧ (¬ (z26 = 0) → S26.1 x0 = 6 ∧ CT l G bX5_accept d mc26 ms26 [vr x0, vi 59] S26 V26 (fun z29 S29 V29 mc29 ms29 => (z29 = 0 → Q 0 S29 V29) ∧ (¬ (z29 = 0) → S29.1 x0 = 6 ∧ CT l G bX5_accept d mc29 ms29 [vr x0, vi 125] S29 V29 (fun z32 S32 V32 mc32 ms32 => (z32 = 0 → Q 0 S32 V32) ∧ (¬ (z32 = 0) → Q 1 S32 V32))))))) ∧ (¬ (z23 ≠ 0) → Q 0 S23 V23)))))) ∧ (¬ (x2 = 0) → S.1 x0 = 6 ∧ ((V x0 7) ≠ 10 → (x2 = 0 → Q 0 S V) ∧ (¬ (x2 = 0) → CT l G bX5_accept d mc ms [vr x0, vi 11] S V (fun z37 S37 V37 mc37 ms37 => (z37 = 0 → Q 0 S37 V37) ∧ (¬ (z37 = 0) → S37.1 x0 = 6 ∧ CT l G bX5_accept d mc37 ms37 [vr x0, vi 58] S37 V37 (fun z40 S40 V40 mc40 ms40 => (z40 ≠ 0 → S40.1 x0 = 6 ∧ S40.1 (V40 x0 1) = 2 ∧ S40.1 x1 = 8 ∧ CT l G bX5_readSum d mc40 ms40 [vr x0, vi 0] S40 (up V40 x1 4 (V40 (V40 x0 1) 2)) (fun z43 S43 V43 mc43 ms43 => (z43 = 0 → Q 0 S43 V43) ∧ (¬ (z43 = 0) → S43.1 x0 = 6 ∧ CT l G bX5_accept d mc43 ms43 [vr x0, vi 59] S43 V43 (fun z46 S46 V46 mc46 ms46 => (z46 = 0 → Q 0 S46 V46) ∧ (¬ (z46 = 0) → S46.1 x0 = 6 ∧ CT l G bX5_accept d mc46 ms46 [vr x0, vi 125] S46 V46 (fun z49 S49 V49 mc49 ms49 => (z49 = 0 → Q 0 S49 V49) ∧ (¬ (z49 = 0) → Q 1 S49 V49))))))) ∧ (¬ (z40 ≠ 0) → Q 0 S40 V40)))))) ∧ (¬ ((V x0 7) ≠ 10) → CT l G bX5_readCase d mc ms [vr x0, vr x1] S V (fun z52 S52 V52 mc52 ms52 => -2147483648 ≤ x3 + 1 ∧ x3 + 1 ≤ 2147483647 ∧ XJ l G bX5_readSwitch Q d 75 [vr x0, vr x1, vi z52, vi (x3 + 1)] [] S52 V52 mc52 ms52))))) : XJ l G bX5_readSwitch Q d 75 [vr x0, vr x1, vi x2, vi x3] [] S V mc ms := by
  refine X_iload_n dX5_readSwitch_75 rfl ?_
  refine X_bipush dX5_readSwitch_76 (by decide) (by decide) ?_
  refine X_icmp_gt dX5_readSwitch_78 (tgt := 106) rfl (fun c1 => ?_) (fun c1 => ?_)
  · refine X_iload_n dX5_readSwitch_106 rfl ?_
    refine X_if_eq dX5_readSwitch_107 (tgt := 128) rfl (fun c2 => ?_) (fun c2 => ?_)
    · refine X_iconst dX5_readSwitch_128 (by decide) ?_
      exact X_ret (z := 0) dX5_readSwitch_129 rfl (fun _ => Or.inl rfl) ((h.1 c1).1 c2)
    · refine X_aload_n dX5_readSwitch_110 rfl ?_
      refine X_bipush dX5_readSwitch_111 (by decide) (by decide) ?_
      refine X_invV (ci := 5) (as := [vi 11]) (st := []) okX5_accept dX5_readSwitch_113 km_RX5_117 rfl rfl (Nat.le_of_ble_eq_true rfl) rfl rfl ((h.1 c1).2 c2).1 (CT.imp ((h.1 c1).2 c2).2 (fun z3 S3 V3 mc3 ms3 hc4 => ?_))
      refine X_if_eq dX5_readSwitch_116 (tgt := 128) rfl (fun c5 => ?_) (fun c5 => ?_)
      · refine X_iconst dX5_readSwitch_128 (by decide) ?_
        exact X_ret (z := 0) dX5_readSwitch_129 rfl (fun _ => Or.inl rfl) (hc4.1 c5)
      · refine X_aload_n dX5_readSwitch_119 rfl ?_
        refine X_bipush dX5_readSwitch_120 (by decide) (by decide) ?_
        refine X_invV (ci := 5) (as := [vi 58]) (st := []) okX5_accept dX5_readSwitch_122 km_RX5_117 rfl rfl (Nat.le_of_ble_eq_true rfl) rfl rfl (hc4.2 c5).1 (CT.imp (hc4.2 c5).2 (fun z6 S6 V6 mc6 ms6 hc7 => ?_))
        refine X_if_ne dX5_readSwitch_125 (tgt := 130) rfl (fun c8 => ?_) (fun c8 => ?_)
        · refine X_aload_n dX5_readSwitch_130 rfl ?_
          refine X_aload_n dX5_readSwitch_131 rfl ?_
          refine X_getfield (ci := 5) (k := 1) (v := vr (V6 x0 1)) dX5_readSwitch_132 rfl (by decide) kf_RX5_14 rfl (hc7.1 c8).1 ?_
          refine X_getfield (ci := 1) (k := 2) (v := vi (V6 (V6 x0 1) 2)) dX5_readSwitch_135 rfl (by decide) kf_RX5_35 rfl (hc7.1 c8).2.1 ?_
          refine X_putfield (ci := 7) (k := 4) (z := (V6 (V6 x0 1) 2)) dX5_readSwitch_138 rfl (by decide) kf_RX5_232 (Or.inl rfl) (Or.inl rfl) rfl (fun hv => hv) (hc7.1 c8).2.2.1 ?_
          refine X_aload_n dX5_readSwitch_141 rfl ?_
          refine X_iconst dX5_readSwitch_142 (by decide) ?_
          refine X_invV (ci := 5) (as := [vi 0]) (st := []) okX5_readSum dX5_readSwitch_143 km_RX5_144 rfl rfl (Nat.le_of_ble_eq_true rfl) rfl rfl (hc7.1 c8).1 (CT.imp (hc7.1 c8).2.2.2 (fun z9 S9 V9 mc9 ms9 hc10 => ?_))
          refine X_if_eq dX5_readSwitch_146 (tgt := 171) rfl (fun c11 => ?_) (fun c11 => ?_)
          · refine X_iconst dX5_readSwitch_171 (by decide) ?_
            exact X_ret (z := 0) dX5_readSwitch_172 rfl (fun _ => Or.inl rfl) (hc10.1 c11)
          · refine X_aload_n dX5_readSwitch_149 rfl ?_
            refine X_bipush dX5_readSwitch_150 (by decide) (by decide) ?_
            refine X_invV (ci := 5) (as := [vi 59]) (st := []) okX5_accept dX5_readSwitch_152 km_RX5_117 rfl rfl (Nat.le_of_ble_eq_true rfl) rfl rfl (hc10.2 c11).1 (CT.imp (hc10.2 c11).2 (fun z12 S12 V12 mc12 ms12 hc13 => ?_))
            refine X_if_eq dX5_readSwitch_155 (tgt := 171) rfl (fun c14 => ?_) (fun c14 => ?_)
            · refine X_iconst dX5_readSwitch_171 (by decide) ?_
              exact X_ret (z := 0) dX5_readSwitch_172 rfl (fun _ => Or.inl rfl) (hc13.1 c14)
            · refine X_aload_n dX5_readSwitch_158 rfl ?_
              refine X_bipush dX5_readSwitch_159 (by decide) (by decide) ?_
              refine X_invV (ci := 5) (as := [vi 125]) (st := []) okX5_accept dX5_readSwitch_161 km_RX5_117 rfl rfl (Nat.le_of_ble_eq_true rfl) rfl rfl (hc13.2 c14).1 (CT.imp (hc13.2 c14).2 (fun z15 S15 V15 mc15 ms15 hc16 => ?_))
              refine X_if_eq dX5_readSwitch_164 (tgt := 171) rfl (fun c17 => ?_) (fun c17 => ?_)
              · refine X_iconst dX5_readSwitch_171 (by decide) ?_
                exact X_ret (z := 0) dX5_readSwitch_172 rfl (fun _ => Or.inl rfl) (hc16.1 c17)
              · refine X_iconst dX5_readSwitch_167 (by decide) ?_
                refine X_goto dX5_readSwitch_168 (tgt := 172) rfl ?_
                exact X_ret (z := 1) dX5_readSwitch_172 rfl (fun _ => Or.inr rfl) (hc16.2 c17)
        · refine X_iconst dX5_readSwitch_128 (by decide) ?_
          exact X_ret (z := 0) dX5_readSwitch_129 rfl (fun _ => Or.inl rfl) (hc7.2 c8)
  · refine X_iload_n dX5_readSwitch_81 rfl ?_
    refine X_if_eq dX5_readSwitch_82 (tgt := 106) rfl (fun c18 => ?_) (fun c18 => ?_)
    · refine X_iload_n dX5_readSwitch_106 rfl ?_
      refine X_if_eq dX5_readSwitch_107 (tgt := 128) rfl (fun c19 => ?_) (fun c19 => ?_)
      · refine X_iconst dX5_readSwitch_128 (by decide) ?_
        exact X_ret (z := 0) dX5_readSwitch_129 rfl (fun _ => Or.inl rfl) (((h.2 c1).1 c18).1 c19)
      · refine X_aload_n dX5_readSwitch_110 rfl ?_
        refine X_bipush dX5_readSwitch_111 (by decide) (by decide) ?_
        refine X_invV (ci := 5) (as := [vi 11]) (st := []) okX5_accept dX5_readSwitch_113 km_RX5_117 rfl rfl (Nat.le_of_ble_eq_true rfl) rfl rfl (((h.2 c1).1 c18).2 c19).1 (CT.imp (((h.2 c1).1 c18).2 c19).2 (fun z20 S20 V20 mc20 ms20 hc21 => ?_))
        refine X_if_eq dX5_readSwitch_116 (tgt := 128) rfl (fun c22 => ?_) (fun c22 => ?_)
        · refine X_iconst dX5_readSwitch_128 (by decide) ?_
          exact X_ret (z := 0) dX5_readSwitch_129 rfl (fun _ => Or.inl rfl) (hc21.1 c22)
        · refine X_aload_n dX5_readSwitch_119 rfl ?_
          refine X_bipush dX5_readSwitch_120 (by decide) (by decide) ?_
          refine X_invV (ci := 5) (as := [vi 58]) (st := []) okX5_accept dX5_readSwitch_122 km_RX5_117 rfl rfl (Nat.le_of_ble_eq_true rfl) rfl rfl (hc21.2 c22).1 (CT.imp (hc21.2 c22).2 (fun z23 S23 V23 mc23 ms23 hc24 => ?_))
          refine X_if_ne dX5_readSwitch_125 (tgt := 130) rfl (fun c25 => ?_) (fun c25 => ?_)
          · refine X_aload_n dX5_readSwitch_130 rfl ?_
            refine X_aload_n dX5_readSwitch_131 rfl ?_
            refine X_getfield (ci := 5) (k := 1) (v := vr (V23 x0 1)) dX5_readSwitch_132 rfl (by decide) kf_RX5_14 rfl (hc24.1 c25).1 ?_
            refine X_getfield (ci := 1) (k := 2) (v := vi (V23 (V23 x0 1) 2)) dX5_readSwitch_135 rfl (by decide) kf_RX5_35 rfl (hc24.1 c25).2.1 ?_
            refine X_putfield (ci := 7) (k := 4) (z := (V23 (V23 x0 1) 2)) dX5_readSwitch_138 rfl (by decide) kf_RX5_232 (Or.inl rfl) (Or.inl rfl) rfl (fun hv => hv) (hc24.1 c25).2.2.1 ?_
            refine X_aload_n dX5_readSwitch_141 rfl ?_
            refine X_iconst dX5_readSwitch_142 (by decide) ?_
            refine X_invV (ci := 5) (as := [vi 0]) (st := []) okX5_readSum dX5_readSwitch_143 km_RX5_144 rfl rfl (Nat.le_of_ble_eq_true rfl) rfl rfl (hc24.1 c25).1 (CT.imp (hc24.1 c25).2.2.2 (fun z26 S26 V26 mc26 ms26 hc27 => ?_))
            refine X_if_eq dX5_readSwitch_146 (tgt := 171) rfl (fun c28 => ?_) (fun c28 => ?_)
            · refine X_iconst dX5_readSwitch_171 (by decide) ?_
              exact X_ret (z := 0) dX5_readSwitch_172 rfl (fun _ => Or.inl rfl) (hc27.1 c28)
            · refine X_aload_n dX5_readSwitch_149 rfl ?_
              refine X_bipush dX5_readSwitch_150 (by decide) (by decide) ?_
              refine X_invV (ci := 5) (as := [vi 59]) (st := []) okX5_accept dX5_readSwitch_152 km_RX5_117 rfl rfl (Nat.le_of_ble_eq_true rfl) rfl rfl (hc27.2 c28).1 (CT.imp (hc27.2 c28).2 (fun z29 S29 V29 mc29 ms29 hc30 => ?_))
              refine X_if_eq dX5_readSwitch_155 (tgt := 171) rfl (fun c31 => ?_) (fun c31 => ?_)
              · refine X_iconst dX5_readSwitch_171 (by decide) ?_
                exact X_ret (z := 0) dX5_readSwitch_172 rfl (fun _ => Or.inl rfl) (hc30.1 c31)
              · refine X_aload_n dX5_readSwitch_158 rfl ?_
                refine X_bipush dX5_readSwitch_159 (by decide) (by decide) ?_
                refine X_invV (ci := 5) (as := [vi 125]) (st := []) okX5_accept dX5_readSwitch_161 km_RX5_117 rfl rfl (Nat.le_of_ble_eq_true rfl) rfl rfl (hc30.2 c31).1 (CT.imp (hc30.2 c31).2 (fun z32 S32 V32 mc32 ms32 hc33 => ?_))
                refine X_if_eq dX5_readSwitch_164 (tgt := 171) rfl (fun c34 => ?_) (fun c34 => ?_)
                · refine X_iconst dX5_readSwitch_171 (by decide) ?_
                  exact X_ret (z := 0) dX5_readSwitch_172 rfl (fun _ => Or.inl rfl) (hc33.1 c34)
                · refine X_iconst dX5_readSwitch_167 (by decide) ?_
                  refine X_goto dX5_readSwitch_168 (tgt := 172) rfl ?_
                  exact X_ret (z := 1) dX5_readSwitch_172 rfl (fun _ => Or.inr rfl) (hc33.2 c34)
          · refine X_iconst dX5_readSwitch_128 (by decide) ?_
            exact X_ret (z := 0) dX5_readSwitch_129 rfl (fun _ => Or.inl rfl) (hc24.2 c25)
    · refine X_aload_n dX5_readSwitch_85 rfl ?_
      refine X_getfield (ci := 5) (k := 7) (v := vi (V x0 7)) dX5_readSwitch_86 rfl (by decide) kf_RX5_52 rfl ((h.2 c1).2 c18).1 ?_
      refine X_bipush dX5_readSwitch_89 (by decide) (by decide) ?_
      refine X_icmp_ne dX5_readSwitch_91 (tgt := 106) rfl (fun c35 => ?_) (fun c35 => ?_)
      · refine X_iload_n dX5_readSwitch_106 rfl ?_
        refine X_if_eq dX5_readSwitch_107 (tgt := 128) rfl (fun c36 => ?_) (fun c36 => ?_)
        · refine X_iconst dX5_readSwitch_128 (by decide) ?_
          exact X_ret (z := 0) dX5_readSwitch_129 rfl (fun _ => Or.inl rfl) ((((h.2 c1).2 c18).2.1 c35).1 c36)
        · refine X_aload_n dX5_readSwitch_110 rfl ?_
          refine X_bipush dX5_readSwitch_111 (by decide) (by decide) ?_
          refine X_invV (ci := 5) (as := [vi 11]) (st := []) okX5_accept dX5_readSwitch_113 km_RX5_117 rfl rfl (Nat.le_of_ble_eq_true rfl) rfl rfl ((h.2 c1).2 c18).1 (CT.imp ((((h.2 c1).2 c18).2.1 c35).2 c36) (fun z37 S37 V37 mc37 ms37 hc38 => ?_))
          refine X_if_eq dX5_readSwitch_116 (tgt := 128) rfl (fun c39 => ?_) (fun c39 => ?_)
          · refine X_iconst dX5_readSwitch_128 (by decide) ?_
            exact X_ret (z := 0) dX5_readSwitch_129 rfl (fun _ => Or.inl rfl) (hc38.1 c39)
          · refine X_aload_n dX5_readSwitch_119 rfl ?_
            refine X_bipush dX5_readSwitch_120 (by decide) (by decide) ?_
            refine X_invV (ci := 5) (as := [vi 58]) (st := []) okX5_accept dX5_readSwitch_122 km_RX5_117 rfl rfl (Nat.le_of_ble_eq_true rfl) rfl rfl (hc38.2 c39).1 (CT.imp (hc38.2 c39).2 (fun z40 S40 V40 mc40 ms40 hc41 => ?_))
            refine X_if_ne dX5_readSwitch_125 (tgt := 130) rfl (fun c42 => ?_) (fun c42 => ?_)
            · refine X_aload_n dX5_readSwitch_130 rfl ?_
              refine X_aload_n dX5_readSwitch_131 rfl ?_
              refine X_getfield (ci := 5) (k := 1) (v := vr (V40 x0 1)) dX5_readSwitch_132 rfl (by decide) kf_RX5_14 rfl (hc41.1 c42).1 ?_
              refine X_getfield (ci := 1) (k := 2) (v := vi (V40 (V40 x0 1) 2)) dX5_readSwitch_135 rfl (by decide) kf_RX5_35 rfl (hc41.1 c42).2.1 ?_
              refine X_putfield (ci := 7) (k := 4) (z := (V40 (V40 x0 1) 2)) dX5_readSwitch_138 rfl (by decide) kf_RX5_232 (Or.inl rfl) (Or.inl rfl) rfl (fun hv => hv) (hc41.1 c42).2.2.1 ?_
              refine X_aload_n dX5_readSwitch_141 rfl ?_
              refine X_iconst dX5_readSwitch_142 (by decide) ?_
              refine X_invV (ci := 5) (as := [vi 0]) (st := []) okX5_readSum dX5_readSwitch_143 km_RX5_144 rfl rfl (Nat.le_of_ble_eq_true rfl) rfl rfl (hc41.1 c42).1 (CT.imp (hc41.1 c42).2.2.2 (fun z43 S43 V43 mc43 ms43 hc44 => ?_))
              refine X_if_eq dX5_readSwitch_146 (tgt := 171) rfl (fun c45 => ?_) (fun c45 => ?_)
              · refine X_iconst dX5_readSwitch_171 (by decide) ?_
                exact X_ret (z := 0) dX5_readSwitch_172 rfl (fun _ => Or.inl rfl) (hc44.1 c45)
              · refine X_aload_n dX5_readSwitch_149 rfl ?_
                refine X_bipush dX5_readSwitch_150 (by decide) (by decide) ?_
                refine X_invV (ci := 5) (as := [vi 59]) (st := []) okX5_accept dX5_readSwitch_152 km_RX5_117 rfl rfl (Nat.le_of_ble_eq_true rfl) rfl rfl (hc44.2 c45).1 (CT.imp (hc44.2 c45).2 (fun z46 S46 V46 mc46 ms46 hc47 => ?_))
                refine X_if_eq dX5_readSwitch_155 (tgt := 171) rfl (fun c48 => ?_) (fun c48 => ?_)
                · refine X_iconst dX5_readSwitch_171 (by decide) ?_
                  exact X_ret (z := 0) dX5_readSwitch_172 rfl (fun _ => Or.inl rfl) (hc47.1 c48)
                · refine X_aload_n dX5_readSwitch_158 rfl ?_
                  refine X_bipush dX5_readSwitch_159 (by decide) (by decide) ?_
                  refine X_invV (ci := 5) (as := [vi 125]) (st := []) okX5_accept dX5_readSwitch_161 km_RX5_117 rfl rfl (Nat.le_of_ble_eq_true rfl) rfl rfl (hc47.2 c48).1 (CT.imp (hc47.2 c48).2 (fun z49 S49 V49 mc49 ms49 hc50 => ?_))
                  refine X_if_eq dX5_readSwitch_164 (tgt := 171) rfl (fun c51 => ?_) (fun c51 => ?_)
                  · refine X_iconst dX5_readSwitch_171 (by decide) ?_
                    exact X_ret (z := 0) dX5_readSwitch_172 rfl (fun _ => Or.inl rfl) (hc50.1 c51)
                  · refine X_iconst dX5_readSwitch_167 (by decide) ?_
                    refine X_goto dX5_readSwitch_168 (tgt := 172) rfl ?_
                    exact X_ret (z := 1) dX5_readSwitch_172 rfl (fun _ => Or.inr rfl) (hc50.2 c51)
            · refine X_iconst dX5_readSwitch_128 (by decide) ?_
              exact X_ret (z := 0) dX5_readSwitch_129 rfl (fun _ => Or.inl rfl) (hc41.2 c42)
      · refine X_aload_n dX5_readSwitch_94 rfl ?_
        refine X_aload_n dX5_readSwitch_95 rfl ?_
        refine X_invV (ci := 5) (as := [vr x1]) (st := []) okX5_readCase dX5_readSwitch_96 km_RX5_228 rfl rfl (Nat.le_of_ble_eq_true rfl) rfl rfl ((h.2 c1).2 c18).1 (CT.imp (((h.2 c1).2 c18).2.2 c35) (fun z52 S52 V52 mc52 ms52 hc53 => ?_))
        refine X_istore_n dX5_readSwitch_99 (by decide) rfl ?_
        refine X_iincN dX5_readSwitch_100 rfl (by decide) rfl (e := x3 + 1) rfl hc53.1 hc53.2.1 ?_
        refine X_goto dX5_readSwitch_103 (tgt := 75) rfl ?_
        exact hc53.2.2
theorem qX5_readSwitch {l : Launch} {G : GT} {Q : Int → Sh → Mem → Prop} {d : Nat} {S : Sh} {V : Mem} {mc ms : Nat} {x0 : Int} (h : 0 ≤ x0 → XJ l G bX5_readSwitch Q d 0 [vr x0, vu, vu, vu] [] S V mc ms) : Ct l G bX5_readSwitch Q d mc ms [vr x0] S V := Ct.of okX5_readSwitch.1 trivial (Nat.le_of_ble_eq_true rfl) (fun hv => h (hv _ (List.mem_of_getElem? (i := 0) rfl)))
set_option maxRecDepth 10000 in
theorem vX5_readCase_0 {l : Launch} {G : GT} {Q : Int → Sh → Mem → Prop} {d : Nat} {S : Sh} {V : Mem} {mc ms : Nat} {x0 x1 : Int} (h : S.1 x1 = 8 ∧ (12 ≤ (V x1 3) → S.1 x0 = 6 ∧ CT l G bX5_pass d mc ms [vr x0, vi 0, vi 5] S V (fun z2 S2 V2 mc2 ms2 => (z2 ≠ 0 → S2.1 x0 = 6 ∧ S2.1 x1 = 8 ∧ CT l G bX7_hasCase d mc2 ms2 [vr x1, vl (V2 x0 8)] S2 V2 (fun z5 S5 V5 mc5 ms5 => S5.1 x0 = 6 ∧ CT l G bX5_acceptNew d mc5 ms5 [vr x0, vi z5, vi 1] S5 V5 (fun z7 S7 V7 mc7 ms7 => (z7 ≠ 0 → S7.1 x1 = 8 ∧ S7.1 x0 = 6 ∧ S7.1 (V7 x1 1) = 22 ∧ 0 ≤ (V7 x1 3) ∧ (V7 x1 3) < S7.2.1 (V7 x1 1) ∧ S7.1 (V7 x0 1) = 2 ∧ S7.1 (V7 x1 2) = 20 ∧ (V7 x1 3) < S7.2.1 (V7 x1 2) ∧ -2147483648 ≤ (V7 x1 3) + 1 ∧ (V7 x1 3) + 1 ≤ 2147483647 ∧ CT l G bX1_emit d mc7 ms7 [vr (V7 x0 1), vi 14, vi (V2 x0 6)] S7 (up (up (up V7 (V7 x1 1) (V7 x1 3) (V7 x0 9)) (V7 x1 2) (V7 x1 3) (V7 (V7 x0 1) 2)) x1 3 ((V7 x1 3) + 1)) (fun z10 S10 V10 mc10 ms10 => S10.1 x0 = 6 ∧ CT l G bX5_accept d mc10 ms10 [vr x0, vi 58] S10 V10 (fun z12 S12 V12 mc12 ms12 => (z12 = 0 → Q 0 S12 V12) ∧ (¬ (z12 = 0) → S12.1 x0 = 6 ∧ CT l G bX5_readSum d mc12 ms12 [vr x0, vi 0] S12 V12 (fun z15 S15 V15 mc15 ms15 => (z15 = 0 → Q 0 S15 V15) ∧ (¬ (z15 = 0) → S15.1 x0 = 6 ∧ CT l G bX5_accept d mc15 ms15 [vr x0, vi 59] S15 V15 (fun z18 S18 V18 mc18 ms18 => (z18 = 0 → Q 0 S18 V18) ∧ (¬ (z18 = 0) → Q 1 S18 V18)))))))) ∧ (¬ (z7 ≠ 0) → Q 0 S7 V7)))) ∧ (¬ (z2 ≠ 0) → Q 0 S2 V2))) ∧ (¬ (12 ≤ (V x1 3)) → S.1 x0 = 6 ∧ CT l G bX5_pass d mc ms [vr x0, vi 1, vi 5] S V (fun z21 S21 V21 mc21 ms21 => (z21 ≠ 0 → S21.1 x0 = 6 ∧ S21.1 x1 = 8 ∧ CT l G bX7_hasCase d mc21 ms21 [vr x1, vl (V21 x0 8)] S21 V21 (fun z24 S24 V24 mc24 ms24 => S24.1 x0 = 6 ∧ CT l G bX5_acceptNew d mc24 ms24 [vr x0, vi z24, vi 1] S24 V24 (fun z26 S26 V26 mc26 ms26 => (z26 ≠ 0 → S26.1 x1 = 8 ∧ S26.1 x0 = 6 ∧ S26.1 (V26 x1 1) = 22 ∧ 0 ≤ (V26 x1 3) ∧ (V26 x1 3) < S26.2.1 (V26 x1 1) ∧ S26.1 (V26 x0 1) = 2 ∧ S26.1 (V26 x1 2) = 20 ∧ (V26 x1 3) < S26.2.1 (V26 x1 2) ∧ -2147483648 ≤ (V26 x1 3) + 1 ∧ (V26 x1 3) + 1 ≤ 2147483647 ∧ CT l G bX1_emit d mc26 ms26 [vr (V26 x0 1), vi 14, vi (V21 x0 6)] S26 (up (up (up V26 (V26 x1 1) (V26 x1 3) (V26 x0 9)) (V26 x1 2) (V26 x1 3) (V26 (V26 x0 1) 2)) x1 3 ((V26 x1 3) + 1)) (fun z29 S29 V29 mc29 ms29 => S29.1 x0 = 6 ∧ CT l G bX5_accept d mc29 ms29 [vr x0, vi 58] S29 V29 (fun z31 S31 V31 mc31 ms31 => (z31 = 0 → Q 0 S31 V31) ∧ (¬ (z31 = 0) → S31.1 x0 = 6 ∧ CT l G bX5_readSum d mc31 ms31 [vr x0, vi 0] S31 V31 (fun z34 S34 V34 mc34 ms34 => (z34 = 0 → Q 0 S34 V34) ∧ (¬ (z34 = 0) → S34.1 x0 = 6 ∧ CT l G bX5_accept d mc34 ms34 [vr x0, vi 59] S34 V34 (fun z37 S37 V37 mc37 ms37 => (z37 = 0 → Q 0 S37 V37) ∧ (¬ (z37 = 0) → Q 1 S37 V37)))))))) ∧ (¬ (z26 ≠ 0) → Q 0 S26 V26)))) ∧ (¬ (z21 ≠ 0) → Q 0 S21 V21)))) : XJ l G bX5_readCase Q d 0 [vr x0, vr x1, vu] [] S V mc ms := by
  refine X_aload_n dX5_readCase_0 rfl ?_
  refine X_aload_n dX5_readCase_1 rfl ?_
  refine X_getfield (ci := 7) (k := 3) (v := vi (V x1 3)) dX5_readCase_2 rfl (by decide) kf_RX5_235 rfl h.1 ?_
  refine X_bipush dX5_readCase_5 (by decide) (by decide) ?_
  refine X_icmp_ge dX5_readCase_7 (tgt := 14) rfl (fun c1 => ?_) (fun c1 => ?_)
  · refine X_iconst dX5_readCase_14 (by decide) ?_
    refine X_iconst dX5_readCase_15 (by decide) ?_
    refine X_invV (ci := 5) (as := [vi 0, vi 5]) (st := []) okX5_pass dX5_readCase_16 km_RX5_48 rfl rfl (Nat.le_of_ble_eq_true rfl) rfl rfl (h.2.1 c1).1 (CT.imp (h.2.1 c1).2 (fun z2 S2 V2 mc2 ms2 hc3 => ?_))
    refine X_if_ne dX5_readCase_19 (tgt := 24) rfl (fun c4 => ?_) (fun c4 => ?_)
    · refine X_aload_n dX5_readCase_24 rfl ?_
      refine X_getfield (ci := 5) (k := 6) (v := vi (V2 x0 6)) dX5_readCase_25 rfl (by decide) kf_RX5_45 rfl (hc3.1 c4).1 ?_
      refine X_istore_n dX5_readCase_28 (by decide) rfl ?_
      refine X_aload_n dX5_readCase_29 rfl ?_
      refine X_aload_n dX5_readCase_30 rfl ?_
      refine X_aload_n dX5_readCase_31 rfl ?_
      refine X_getfield (ci := 5) (k := 8) (v := vl (V2 x0 8)) dX5_readCase_32 rfl (by decide) kf_RX5_86 rfl (hc3.1 c4).1 ?_
      refine X_invV (ci := 7) (as := [vl (V2 x0 8)]) (st := [vr x0]) okX7_hasCase dX5_readCase_35 km_RX5_238 rfl rfl (Nat.le_of_ble_eq_true rfl) rfl rfl (hc3.1 c4).2.1 (CT.imp (hc3.1 c4).2.2 (fun z5 S5 V5 mc5 ms5 hc6 => ?_))
      refine X_iconst dX5_readCase_38 (by decide) ?_
      refine X_invV (ci := 5) (as := [vi z5, vi 1]) (st := []) okX5_acceptNew dX5_readCase_39 km_RX5_94 rfl rfl (Nat.le_of_ble_eq_true rfl) rfl rfl hc6.1 (CT.imp hc6.2 (fun z7 S7 V7 mc7 ms7 hc8 => ?_))
      refine X_if_ne dX5_readCase_42 (tgt := 47) rfl (fun c9 => ?_) (fun c9 => ?_)
      · refine X_aload_n dX5_readCase_47 rfl ?_
        refine X_getfield (ci := 7) (k := 1) (v := vr (V7 x1 1)) dX5_readCase_48 rfl (by decide) kf_RX5_241 rfl (hc8.1 c9).1 ?_
        refine X_aload_n dX5_readCase_51 rfl ?_
        refine X_getfield (ci := 7) (k := 3) (v := vi (V7 x1 3)) dX5_readCase_52 rfl (by decide) kf_RX5_235 rfl (hc8.1 c9).1 ?_
        refine X_aload_n dX5_readCase_55 rfl ?_
        refine X_getfield (ci := 5) (k := 9) (v := vl (V7 x0 9)) dX5_readCase_56 rfl (by decide) kf_RX5_100 rfl (hc8.1 c9).2.1 ?_
        refine X_lastore dX5_readCase_59 (hc8.1 c9).2.2.1 (hc8.1 c9).2.2.2.1 (hc8.1 c9).2.2.2.2.1 ?_
        refine X_aload_n dX5_readCase_60 rfl ?_
        refine X_getfield (ci := 7) (k := 2) (v := vr (V7 x1 2)) dX5_readCase_61 rfl (by decide) kf_RX5_244 (congrArg vr (up_ne (Or.inl (tag_ne (hc8.1 c9).1 (hc8.1 c9).2.2.1 (by decide))))) (hc8.1 c9).1 ?_
        refine X_aload_n dX5_readCase_64 rfl ?_
        refine X_getfield (ci := 7) (k := 3) (v := vi (V7 x1 3)) dX5_readCase_65 rfl (by decide) kf_RX5_235 (congrArg vi (up_ne (Or.inl (tag_ne (hc8.1 c9).1 (hc8.1 c9).2.2.1 (by decide))))) (hc8.1 c9).1 ?_
        refine X_aload_n dX5_readCase_68 rfl ?_
        refine X_getfield (ci := 5) (k := 1) (v := vr (V7 x0 1)) dX5_readCase_69 rfl (by decide) kf_RX5_14 (congrArg vr (up_ne (Or.inl (tag_ne (hc8.1 c9).2.1 (hc8.1 c9).2.2.1 (by decide))))) (hc8.1 c9).2.1 ?_
        refine X_getfield (ci := 1) (k := 2) (v := vi (V7 (V7 x0 1) 2)) dX5_readCase_72 rfl (by decide) kf_RX5_35 (congrArg vi (up_ne (Or.inl (tag_ne (hc8.1 c9).2.2.2.2.2.1 (hc8.1 c9).2.2.1 (by decide))))) (hc8.1 c9).2.2.2.2.2.1 ?_
        refine X_iastore dX5_readCase_75 (hc8.1 c9).2.2.2.2.2.2.1 (hc8.1 c9).2.2.2.1 (hc8.1 c9).2.2.2.2.2.2.2.1 ?_
        refine X_aload_n dX5_readCase_76 rfl ?_
        refine X_dup dX5_readCase_77 (rv_cat _) ?_
        refine X_getfield (ci := 7) (k := 3) (v := vi (V7 x1 3)) dX5_readCase_78 rfl (by decide) kf_RX5_235 (congrArg vi ((up_ne (Or.inl (tag_ne (hc8.1 c9).1 (hc8.1 c9).2.2.2.2.2.2.1 (by decide)))).trans (up_ne (Or.inl (tag_ne (hc8.1 c9).1 (hc8.1 c9).2.2.1 (by decide)))))) (hc8.1 c9).1 ?_
        refine X_iconst dX5_readCase_81 (by decide) ?_
        refine X_iaddN dX5_readCase_82 (hc8.1 c9).2.2.2.2.2.2.2.2.1 (hc8.1 c9).2.2.2.2.2.2.2.2.2.1 ?_
        refine X_putfield (ci := 7) (k := 3) (z := ((V7 x1 3) + 1)) dX5_readCase_83 rfl (by decide) kf_RX5_235 (Or.inl rfl) (Or.inl rfl) rfl (fun hv => hv) (hc8.1 c9).1 ?_
        refine X_aload_n dX5_readCase_86 rfl ?_
        refine X_getfield (ci := 5) (k := 1) (v := vr (V7 x0 1)) dX5_readCase_87 rfl (by decide) kf_RX5_14 (congrArg vr ((up_ne (Or.inl (tag_ne (hc8.1 c9).2.1 (hc8.1 c9).1 (by decide)))).trans ((up_ne (Or.inl (tag_ne (hc8.1 c9).2.1 (hc8.1 c9).2.2.2.2.2.2.1 (by decide)))).trans (up_ne (Or.inl (tag_ne (hc8.1 c9).2.1 (hc8.1 c9).2.2.1 (by decide))))))) (hc8.1 c9).2.1 ?_
        refine X_bipush dX5_readCase_90 (by decide) (by decide) ?_
        refine X_iload_n dX5_readCase_92 rfl ?_
        refine X_invV (ci := 1) (as := [vi 14, vi (V2 x0 6)]) (st := []) okX1_emit dX5_readCase_93 km_RX5_247 rfl rfl (Nat.le_of_ble_eq_true rfl) rfl rfl (hc8.1 c9).2.2.2.2.2.1 (CT.imp (hc8.1 c9).2.2.2.2.2.2.2.2.2.2 (fun z10 S10 V10 mc10 ms10 hc11 => ?_))
        refine X_aload_n dX5_readCase_96 rfl ?_
        refine X_bipush dX5_readCase_97 (by decide) (by decide) ?_
        refine X_invV (ci := 5) (as := [vi 58]) (st := []) okX5_accept dX5_readCase_99 km_RX5_117 rfl rfl (Nat.le_of_ble_eq_true rfl) rfl rfl hc11.1 (CT.imp hc11.2 (fun z12 S12 V12 mc12 ms12 hc13 => ?_))
        refine X_if_eq dX5_readCase_102 (tgt := 126) rfl (fun c14 => ?_) (fun c14 => ?_)
        · refine X_iconst dX5_readCase_126 (by decide) ?_
          exact X_ret (z := 0) dX5_readCase_127 rfl (fun _ => Or.inl rfl) (hc13.1 c14)
        · refine X_aload_n dX5_readCase_105 rfl ?_
          refine X_iconst dX5_readCase_106 (by decide) ?_
          refine X_invV (ci := 5) (as := [vi 0]) (st := []) okX5_readSum dX5_readCase_107 km_RX5_144 rfl rfl (Nat.le_of_ble_eq_true rfl) rfl rfl (hc13.2 c14).1 (CT.imp (hc13.2 c14).2 (fun z15 S15 V15 mc15 ms15 hc16 => ?_))
          refine X_if_eq dX5_readCase_110 (tgt := 126) rfl (fun c17 => ?_) (fun c17 => ?_)
          · refine X_iconst dX5_readCase_126 (by decide) ?_
            exact X_ret (z := 0) dX5_readCase_127 rfl (fun _ => Or.inl rfl) (hc16.1 c17)
          · refine X_aload_n dX5_readCase_113 rfl ?_
            refine X_bipush dX5_readCase_114 (by decide) (by decide) ?_
            refine X_invV (ci := 5) (as := [vi 59]) (st := []) okX5_accept dX5_readCase_116 km_RX5_117 rfl rfl (Nat.le_of_ble_eq_true rfl) rfl rfl (hc16.2 c17).1 (CT.imp (hc16.2 c17).2 (fun z18 S18 V18 mc18 ms18 hc19 => ?_))
            refine X_if_eq dX5_readCase_119 (tgt := 126) rfl (fun c20 => ?_) (fun c20 => ?_)
            · refine X_iconst dX5_readCase_126 (by decide) ?_
              exact X_ret (z := 0) dX5_readCase_127 rfl (fun _ => Or.inl rfl) (hc19.1 c20)
            · refine X_iconst dX5_readCase_122 (by decide) ?_
              refine X_goto dX5_readCase_123 (tgt := 127) rfl ?_
              exact X_ret (z := 1) dX5_readCase_127 rfl (fun _ => Or.inr rfl) (hc19.2 c20)
      · refine X_iconst dX5_readCase_45 (by decide) ?_
        exact X_ret (z := 0) dX5_readCase_46 rfl (fun _ => Or.inl rfl) (hc8.2 c9)
    · refine X_iconst dX5_readCase_22 (by decide) ?_
      exact X_ret (z := 0) dX5_readCase_23 rfl (fun _ => Or.inl rfl) (hc3.2 c4)
  · refine X_iconst dX5_readCase_10 (by decide) ?_
    refine X_goto dX5_readCase_11 (tgt := 15) rfl ?_
    refine X_iconst dX5_readCase_15 (by decide) ?_
    refine X_invV (ci := 5) (as := [vi 1, vi 5]) (st := []) okX5_pass dX5_readCase_16 km_RX5_48 rfl rfl (Nat.le_of_ble_eq_true rfl) rfl rfl (h.2.2 c1).1 (CT.imp (h.2.2 c1).2 (fun z21 S21 V21 mc21 ms21 hc22 => ?_))
    refine X_if_ne dX5_readCase_19 (tgt := 24) rfl (fun c23 => ?_) (fun c23 => ?_)
    · refine X_aload_n dX5_readCase_24 rfl ?_
      refine X_getfield (ci := 5) (k := 6) (v := vi (V21 x0 6)) dX5_readCase_25 rfl (by decide) kf_RX5_45 rfl (hc22.1 c23).1 ?_
      refine X_istore_n dX5_readCase_28 (by decide) rfl ?_
      refine X_aload_n dX5_readCase_29 rfl ?_
      refine X_aload_n dX5_readCase_30 rfl ?_
      refine X_aload_n dX5_readCase_31 rfl ?_
      refine X_getfield (ci := 5) (k := 8) (v := vl (V21 x0 8)) dX5_readCase_32 rfl (by decide) kf_RX5_86 rfl (hc22.1 c23).1 ?_
      refine X_invV (ci := 7) (as := [vl (V21 x0 8)]) (st := [vr x0]) okX7_hasCase dX5_readCase_35 km_RX5_238 rfl rfl (Nat.le_of_ble_eq_true rfl) rfl rfl (hc22.1 c23).2.1 (CT.imp (hc22.1 c23).2.2 (fun z24 S24 V24 mc24 ms24 hc25 => ?_))
      refine X_iconst dX5_readCase_38 (by decide) ?_
      refine X_invV (ci := 5) (as := [vi z24, vi 1]) (st := []) okX5_acceptNew dX5_readCase_39 km_RX5_94 rfl rfl (Nat.le_of_ble_eq_true rfl) rfl rfl hc25.1 (CT.imp hc25.2 (fun z26 S26 V26 mc26 ms26 hc27 => ?_))
      refine X_if_ne dX5_readCase_42 (tgt := 47) rfl (fun c28 => ?_) (fun c28 => ?_)
      · refine X_aload_n dX5_readCase_47 rfl ?_
        refine X_getfield (ci := 7) (k := 1) (v := vr (V26 x1 1)) dX5_readCase_48 rfl (by decide) kf_RX5_241 rfl (hc27.1 c28).1 ?_
        refine X_aload_n dX5_readCase_51 rfl ?_
        refine X_getfield (ci := 7) (k := 3) (v := vi (V26 x1 3)) dX5_readCase_52 rfl (by decide) kf_RX5_235 rfl (hc27.1 c28).1 ?_
        refine X_aload_n dX5_readCase_55 rfl ?_
        refine X_getfield (ci := 5) (k := 9) (v := vl (V26 x0 9)) dX5_readCase_56 rfl (by decide) kf_RX5_100 rfl (hc27.1 c28).2.1 ?_
        refine X_lastore dX5_readCase_59 (hc27.1 c28).2.2.1 (hc27.1 c28).2.2.2.1 (hc27.1 c28).2.2.2.2.1 ?_
        refine X_aload_n dX5_readCase_60 rfl ?_
        refine X_getfield (ci := 7) (k := 2) (v := vr (V26 x1 2)) dX5_readCase_61 rfl (by decide) kf_RX5_244 (congrArg vr (up_ne (Or.inl (tag_ne (hc27.1 c28).1 (hc27.1 c28).2.2.1 (by decide))))) (hc27.1 c28).1 ?_
        refine X_aload_n dX5_readCase_64 rfl ?_
        refine X_getfield (ci := 7) (k := 3) (v := vi (V26 x1 3)) dX5_readCase_65 rfl (by decide) kf_RX5_235 (congrArg vi (up_ne (Or.inl (tag_ne (hc27.1 c28).1 (hc27.1 c28).2.2.1 (by decide))))) (hc27.1 c28).1 ?_
        refine X_aload_n dX5_readCase_68 rfl ?_
        refine X_getfield (ci := 5) (k := 1) (v := vr (V26 x0 1)) dX5_readCase_69 rfl (by decide) kf_RX5_14 (congrArg vr (up_ne (Or.inl (tag_ne (hc27.1 c28).2.1 (hc27.1 c28).2.2.1 (by decide))))) (hc27.1 c28).2.1 ?_
        refine X_getfield (ci := 1) (k := 2) (v := vi (V26 (V26 x0 1) 2)) dX5_readCase_72 rfl (by decide) kf_RX5_35 (congrArg vi (up_ne (Or.inl (tag_ne (hc27.1 c28).2.2.2.2.2.1 (hc27.1 c28).2.2.1 (by decide))))) (hc27.1 c28).2.2.2.2.2.1 ?_
        refine X_iastore dX5_readCase_75 (hc27.1 c28).2.2.2.2.2.2.1 (hc27.1 c28).2.2.2.1 (hc27.1 c28).2.2.2.2.2.2.2.1 ?_
        refine X_aload_n dX5_readCase_76 rfl ?_
        refine X_dup dX5_readCase_77 (rv_cat _) ?_
        refine X_getfield (ci := 7) (k := 3) (v := vi (V26 x1 3)) dX5_readCase_78 rfl (by decide) kf_RX5_235 (congrArg vi ((up_ne (Or.inl (tag_ne (hc27.1 c28).1 (hc27.1 c28).2.2.2.2.2.2.1 (by decide)))).trans (up_ne (Or.inl (tag_ne (hc27.1 c28).1 (hc27.1 c28).2.2.1 (by decide)))))) (hc27.1 c28).1 ?_
        refine X_iconst dX5_readCase_81 (by decide) ?_
        refine X_iaddN dX5_readCase_82 (hc27.1 c28).2.2.2.2.2.2.2.2.1 (hc27.1 c28).2.2.2.2.2.2.2.2.2.1 ?_
        refine X_putfield (ci := 7) (k := 3) (z := ((V26 x1 3) + 1)) dX5_readCase_83 rfl (by decide) kf_RX5_235 (Or.inl rfl) (Or.inl rfl) rfl (fun hv => hv) (hc27.1 c28).1 ?_
        refine X_aload_n dX5_readCase_86 rfl ?_
        refine X_getfield (ci := 5) (k := 1) (v := vr (V26 x0 1)) dX5_readCase_87 rfl (by decide) kf_RX5_14 (congrArg vr ((up_ne (Or.inl (tag_ne (hc27.1 c28).2.1 (hc27.1 c28).1 (by decide)))).trans ((up_ne (Or.inl (tag_ne (hc27.1 c28).2.1 (hc27.1 c28).2.2.2.2.2.2.1 (by decide)))).trans (up_ne (Or.inl (tag_ne (hc27.1 c28).2.1 (hc27.1 c28).2.2.1 (by decide))))))) (hc27.1 c28).2.1 ?_
        refine X_bipush dX5_readCase_90 (by decide) (by decide) ?_
        refine X_iload_n dX5_readCase_92 rfl ?_
        refine X_invV (ci := 1) (as := [vi 14, vi (V21 x0 6)]) (st := []) okX1_emit dX5_readCase_93 km_RX5_247 rfl rfl (Nat.le_of_ble_eq_true rfl) rfl rfl (hc27.1 c28).2.2.2.2.2.1 (CT.imp (hc27.1 c28).2.2.2.2.2.2.2.2.2.2 (fun z29 S29 V29 mc29 ms29 hc30 => ?_))
        refine X_aload_n dX5_readCase_96 rfl ?_
        refine X_bipush dX5_readCase_97 (by decide) (by decide) ?_
        refine X_invV (ci := 5) (as := [vi 58]) (st := []) okX5_accept dX5_readCase_99 km_RX5_117 rfl rfl (Nat.le_of_ble_eq_true rfl) rfl rfl hc30.1 (CT.imp hc30.2 (fun z31 S31 V31 mc31 ms31 hc32 => ?_))
        refine X_if_eq dX5_readCase_102 (tgt := 126) rfl (fun c33 => ?_) (fun c33 => ?_)
        · refine X_iconst dX5_readCase_126 (by decide) ?_
          exact X_ret (z := 0) dX5_readCase_127 rfl (fun _ => Or.inl rfl) (hc32.1 c33)
        · refine X_aload_n dX5_readCase_105 rfl ?_
          refine X_iconst dX5_readCase_106 (by decide) ?_
          refine X_invV (ci := 5) (as := [vi 0]) (st := []) okX5_readSum dX5_readCase_107 km_RX5_144 rfl rfl (Nat.le_of_ble_eq_true rfl) rfl rfl (hc32.2 c33).1 (CT.imp (hc32.2 c33).2 (fun z34 S34 V34 mc34 ms34 hc35 => ?_))
          refine X_if_eq dX5_readCase_110 (tgt := 126) rfl (fun c36 => ?_) (fun c36 => ?_)
          · refine X_iconst dX5_readCase_126 (by decide) ?_
            exact X_ret (z := 0) dX5_readCase_127 rfl (fun _ => Or.inl rfl) (hc35.1 c36)
          · refine X_aload_n dX5_readCase_113 rfl ?_
            refine X_bipush dX5_readCase_114 (by decide) (by decide) ?_
            refine X_invV (ci := 5) (as := [vi 59]) (st := []) okX5_accept dX5_readCase_116 km_RX5_117 rfl rfl (Nat.le_of_ble_eq_true rfl) rfl rfl (hc35.2 c36).1 (CT.imp (hc35.2 c36).2 (fun z37 S37 V37 mc37 ms37 hc38 => ?_))
            refine X_if_eq dX5_readCase_119 (tgt := 126) rfl (fun c39 => ?_) (fun c39 => ?_)
            · refine X_iconst dX5_readCase_126 (by decide) ?_
              exact X_ret (z := 0) dX5_readCase_127 rfl (fun _ => Or.inl rfl) (hc38.1 c39)
            · refine X_iconst dX5_readCase_122 (by decide) ?_
              refine X_goto dX5_readCase_123 (tgt := 127) rfl ?_
              exact X_ret (z := 1) dX5_readCase_127 rfl (fun _ => Or.inr rfl) (hc38.2 c39)
      · refine X_iconst dX5_readCase_45 (by decide) ?_
        exact X_ret (z := 0) dX5_readCase_46 rfl (fun _ => Or.inl rfl) (hc27.2 c28)
    · refine X_iconst dX5_readCase_22 (by decide) ?_
      exact X_ret (z := 0) dX5_readCase_23 rfl (fun _ => Or.inl rfl) (hc22.2 c23)
theorem qX5_readCase {l : Launch} {G : GT} {Q : Int → Sh → Mem → Prop} {d : Nat} {S : Sh} {V : Mem} {mc ms : Nat} {x0 x1 : Int} (h : 0 ≤ x0 → 0 ≤ x1 → XJ l G bX5_readCase Q d 0 [vr x0, vr x1, vu] [] S V mc ms) : Ct l G bX5_readCase Q d mc ms [vr x0, vr x1] S V := Ct.of okX5_readCase.1 trivial (Nat.le_of_ble_eq_true rfl) (fun hv => h (hv _ (List.mem_of_getElem? (i := 0) rfl)) (hv _ (List.mem_of_getElem? (i := 1) rfl)))
set_option maxRecDepth 10000 in
theorem vX5_readSum_0 {l : Launch} {G : GT} {Q : Int → Sh → Mem → Prop} {d : Nat} {S : Sh} {V : Mem} {mc ms : Nat} {x0 x1 : Int} (h : XJ l G bX5_readSum Q d 10 [vr x0, vi x1, vi 0, vi 0, vi 1, vi 0] [] S V mc ms) : XJ l G bX5_readSum Q d 0 [vr x0, vi x1, vu, vu, vu, vu] [] S V mc ms := by
  refine X_iconst dX5_readSum_0 (by decide) ?_
  refine X_istore_n dX5_readSum_1 (by decide) rfl ?_
  refine X_iconst dX5_readSum_2 (by decide) ?_
  refine X_istore_n dX5_readSum_3 (by decide) rfl ?_
  refine X_iconst dX5_readSum_4 (by decide) ?_
  refine X_istore dX5_readSum_5 (by decide) rfl ?_
  refine X_iconst dX5_readSum_7 (by decide) ?_
  refine X_istore dX5_readSum_8 (by decide) rfl ?_
  exact h
set_option maxRecDepth 10000 in
theorem vX5_readSum_10 {l : Launch} {G : GT} {Q : Int → Sh → Mem → Prop} {d : Nat} {S : Sh} {V : Mem} {mc ms : Nat} {x0 x1 x2 x3 x4 x5 : Int} (h : (3000 ≤ x5 → (x1 ≠ 0 → Q 1 S V) ∧ (¬ (x1 ≠ 0) → S.1 x0 = 6 ∧ S.1 (V x0 1) = 2 ∧ CT l G bX1_emit d mc ms [vr (V x0 1), vi 0, vi 0] S V (fun z3 S3 V3 mc3 ms3 => Q 1 S3 V3))) ∧ (¬ (3000 ≤ x5) → (x4 = 0 → (x1 ≠ 0 → Q 1 S V) ∧ (¬ (x1 ≠ 0) → S.1 x0 = 6 ∧ S.1 (V x0 1) = 2 ∧ CT l G bX1_emit d mc ms [vr (V x0 1), vi 0, vi 0] S V (fun z7 S7 V7 mc7 ms7 => Q 1 S7 V7))) ∧ (¬ (x4 = 0) → S.1 x0 = 6 ∧ CT l G bX5_readFactor d mc ms [vr x0, vi x1] S V (fun z9 S9 V9 mc9 ms9 => (z9 ≠ 0 → (x3 = 0 → S9.1 x0 = 6 ∧ CT l G bX1_ofProduct d mc9 ms9 [vi (V9 x0 7)] S9 V9 (fun z13 S13 V13 mc13 ms13 => (z13 ≠ 0 → XJ l G bX5_readSum Q d 79 [vr x0, vi x1, vi x2, vi z13, vi x4, vi x5] [] S13 V13 mc13 ms13) ∧ (¬ (z13 ≠ 0) → (x2 = 0 → S13.1 x0 = 6 ∧ CT l G bX1_ofSum d mc13 ms13 [vi (V13 x0 7)] S13 V13 (fun z17 S17 V17 mc17 ms17 => XJ l G bX5_readSum Q d 79 [vr x0, vi x1, vi z17, vi z13, vi x4, vi x5] [] S17 V17 mc17 ms17)) ∧ (¬ (x2 = 0) → S13.1 x0 = 6 ∧ S13.1 (V13 x0 1) = 2 ∧ CT l G bX1_emit d mc13 ms13 [vr (V13 x0 1), vi x2, vi 0] S13 V13 (fun z19 S19 V19 mc19 ms19 => S19.1 x0 = 6 ∧ CT l G bX1_ofSum d mc19 ms19 [vi (V19 x0 7)] S19 V19 (fun z21 S21 V21 mc21 ms21 => XJ l G bX5_readSum Q d 79 [vr x0, vi x1, vi z21, vi z13, vi x4, vi x5] [] S21 V21 mc21 ms21)))))) ∧ (¬ (x3 = 0) → S9.1 x0 = 6 ∧ S9.1 (V9 x0 1) = 2 ∧ CT l G bX1_emit d mc9 ms9 [vr (V9 x0 1), vi x3, vi 0] S9 V9 (fun z23 S23 V23 mc23 ms23 => S23.1 x0 = 6 ∧ CT l G bX1_ofProduct d mc23 ms23 [vi (V23 x0 7)] S23 V23 (fun z25 S25 V25 mc25 ms25 => (z25 ≠ 0 → XJ l G bX5_readSum Q d 79 [vr x0, vi x1, vi x2, vi z25, vi x4, vi x5] [] S25 V25 mc25 ms25) ∧ (¬ (z25 ≠ 0) → (x2 = 0 → S25.1 x0 = 6 ∧ CT l G bX1_ofSum d mc25 ms25 [vi (V25 x0 7)] S25 V25 (fun z29 S29 V29 mc29 ms29 => XJ l G bX5_readSum Q d 79 [vr x0, vi x1, vi z29, vi z25, vi x4, vi x5] [] S29 V29 mc29 ms29)) ∧ (¬ (x2 = 0) → S25.1 x0 = 6 ∧ S25.1 (V25 x0 1) = 2 ∧ CT l G bX1_emit d mc25 ms25 [vr (V25 x0 1), vi x2, vi 0] S25 V25 (fun z31 S31 V31 mc31 ms31 => S31.1 x0 = 6 ∧ CT l G bX1_ofSum d mc31 ms31 [vi (V31 x0 7)] S31 V31 (fun z33 S33 V33 mc33 ms33 => XJ l G bX5_readSum Q d 79 [vr x0, vi x1, vi z33, vi z25, vi x4, vi x5] [] S33 V33 mc33 ms33)))))))) ∧ (¬ (z9 ≠ 0) → Q 0 S9 V9))))) : XJ l G bX5_readSum Q d 10 [vr x0, vi x1, vi x2, vi x3, vi x4, vi x5] [] S V mc ms := by
  refine X_iload dX5_readSum_10 rfl ?_
  refine X_sipush dX5_readSum_12 (by decide) (by decide) ?_
  refine X_icmp_ge dX5_readSum_15 (tgt := 109) rfl (fun c1 => ?_) (fun c1 => ?_)
  · refine X_iload_n dX5_readSum_109 rfl ?_
    refine X_if_ne dX5_readSum_110 (tgt := 122) rfl (fun c2 => ?_) (fun c2 => ?_)
    · refine X_iconst dX5_readSum_122 (by decide) ?_
      exact X_ret (z := 1) dX5_readSum_123 rfl (fun _ => Or.inr rfl) ((h.1 c1).1 c2)
    · refine X_aload_n dX5_readSum_113 rfl ?_
      refine X_getfield (ci := 5) (k := 1) (v := vr (V x0 1)) dX5_readSum_114 rfl (by decide) kf_RX5_14 rfl ((h.1 c1).2 c2).1 ?_
      refine X_iconst dX5_readSum_117 (by decide) ?_
      refine X_iconst dX5_readSum_118 (by decide) ?_
      refine X_invV (ci := 1) (as := [vi 0, vi 0]) (st := []) okX1_emit dX5_readSum_119 km_RX5_247 rfl rfl (Nat.le_of_ble_eq_true rfl) rfl rfl ((h.1 c1).2 c2).2.1 (CT.imp ((h.1 c1).2 c2).2.2 (fun z3 S3 V3 mc3 ms3 hc4 => ?_))
      refine X_iconst dX5_readSum_122 (by decide) ?_
      exact X_ret (z := 1) dX5_readSum_123 rfl (fun _ => Or.inr rfl) hc4
  · refine X_iload dX5_readSum_18 rfl ?_
    refine X_if_eq dX5_readSum_20 (tgt := 109) rfl (fun c5 => ?_) (fun c5 => ?_)
    · refine X_iload_n dX5_readSum_109 rfl ?_
      refine X_if_ne dX5_readSum_110 (tgt := 122) rfl (fun c6 => ?_) (fun c6 => ?_)
      · refine X_iconst dX5_readSum_122 (by decide) ?_
        exact X_ret (z := 1) dX5_readSum_123 rfl (fun _ => Or.inr rfl) (((h.2 c1).1 c5).1 c6)
      · refine X_aload_n dX5_readSum_113 rfl ?_
        refine X_getfield (ci := 5) (k := 1) (v := vr (V x0 1)) dX5_readSum_114 rfl (by decide) kf_RX5_14 rfl (((h.2 c1).1 c5).2 c6).1 ?_
        refine X_iconst dX5_readSum_117 (by decide) ?_
        refine X_iconst dX5_readSum_118 (by decide) ?_
        refine X_invV (ci := 1) (as := [vi 0, vi 0]) (st := []) okX1_emit dX5_readSum_119 km_RX5_247 rfl rfl (Nat.le_of_ble_eq_true rfl) rfl rfl (((h.2 c1).1 c5).2 c6).2.1 (CT.imp (((h.2 c1).1 c5).2 c6).2.2 (fun z7 S7 V7 mc7 ms7 hc8 => ?_))
        refine X_iconst dX5_readSum_122 (by decide) ?_
        exact X_ret (z := 1) dX5_readSum_123 rfl (fun _ => Or.inr rfl) hc8
    · refine X_aload_n dX5_readSum_23 rfl ?_
      refine X_iload_n dX5_readSum_24 rfl ?_
      refine X_invV (ci := 5) (as := [vi x1]) (st := []) okX5_readFactor dX5_readSum_25 km_RX5_251 rfl rfl (Nat.le_of_ble_eq_true rfl) rfl rfl ((h.2 c1).2 c5).1 (CT.imp ((h.2 c1).2 c5).2 (fun z9 S9 V9 mc9 ms9 hc10 => ?_))
      refine X_if_ne dX5_readSum_28 (tgt := 33) rfl (fun c11 => ?_) (fun c11 => ?_)
      · refine X_iload_n dX5_readSum_33 rfl ?_
        refine X_if_eq dX5_readSum_34 (tgt := 46) rfl (fun c12 => ?_) (fun c12 => ?_)
        · refine X_aload_n dX5_readSum_46 rfl ?_
          refine X_getfield (ci := 5) (k := 7) (v := vi (V9 x0 7)) dX5_readSum_47 rfl (by decide) kf_RX5_52 rfl ((hc10.1 c11).1 c12).1 ?_
          refine X_invS (as := [vi (V9 x0 7)]) (st := []) okX1_ofProduct dX5_readSum_50 km_RX5_254 rfl rfl (Nat.le_of_ble_eq_true rfl) (CT.imp ((hc10.1 c11).1 c12).2 (fun z13 S13 V13 mc13 ms13 hc14 => ?_))
          refine X_istore_n dX5_readSum_53 (by decide) rfl ?_
          refine X_iload_n dX5_readSum_54 rfl ?_
          refine X_if_ne dX5_readSum_55 (tgt := 79) rfl (fun c15 => ?_) (fun c15 => ?_)
          · exact (hc14.1 c15)
          · refine X_iload_n dX5_readSum_58 rfl ?_
            refine X_if_eq dX5_readSum_59 (tgt := 71) rfl (fun c16 => ?_) (fun c16 => ?_)
            · refine X_aload_n dX5_readSum_71 rfl ?_
              refine X_getfield (ci := 5) (k := 7) (v := vi (V13 x0 7)) dX5_readSum_72 rfl (by decide) kf_RX5_52 rfl ((hc14.2 c15).1 c16).1 ?_
              refine X_invS (as := [vi (V13 x0 7)]) (st := []) okX1_ofSum dX5_readSum_75 km_RX5_258 rfl rfl (Nat.le_of_ble_eq_true rfl) (CT.imp ((hc14.2 c15).1 c16).2 (fun z17 S17 V17 mc17 ms17 hc18 => ?_))
              refine X_istore_n dX5_readSum_78 (by decide) rfl ?_
              exact hc18
            · refine X_aload_n dX5_readSum_62 rfl ?_
              refine X_getfield (ci := 5) (k := 1) (v := vr (V13 x0 1)) dX5_readSum_63 rfl (by decide) kf_RX5_14 rfl ((hc14.2 c15).2 c16).1 ?_
              refine X_iload_n dX5_readSum_66 rfl ?_
              refine X_iconst dX5_readSum_67 (by decide) ?_
              refine X_invV (ci := 1) (as := [vi x2, vi 0]) (st := []) okX1_emit dX5_readSum_68 km_RX5_247 rfl rfl (Nat.le_of_ble_eq_true rfl) rfl rfl ((hc14.2 c15).2 c16).2.1 (CT.imp ((hc14.2 c15).2 c16).2.2 (fun z19 S19 V19 mc19 ms19 hc20 => ?_))
              refine X_aload_n dX5_readSum_71 rfl ?_
              refine X_getfield (ci := 5) (k := 7) (v := vi (V19 x0 7)) dX5_readSum_72 rfl (by decide) kf_RX5_52 rfl hc20.1 ?_
              refine X_invS (as := [vi (V19 x0 7)]) (st := []) okX1_ofSum dX5_readSum_75 km_RX5_258 rfl rfl (Nat.le_of_ble_eq_true rfl) (CT.imp hc20.2 (fun z21 S21 V21 mc21 ms21 hc22 => ?_))
              refine X_istore_n dX5_readSum_78 (by decide) rfl ?_
              exact hc22
        · refine X_aload_n dX5_readSum_37 rfl ?_
          refine X_getfield (ci := 5) (k := 1) (v := vr (V9 x0 1)) dX5_readSum_38 rfl (by decide) kf_RX5_14 rfl ((hc10.1 c11).2 c12).1 ?_
          refine X_iload_n dX5_readSum_41 rfl ?_
          refine X_iconst dX5_readSum_42 (by decide) ?_
          refine X_invV (ci := 1) (as := [vi x3, vi 0]) (st := []) okX1_emit dX5_readSum_43 km_RX5_247 rfl rfl (Nat.le_of_ble_eq_true rfl) rfl rfl ((hc10.1 c11).2 c12).2.1 (CT.imp ((hc10.1 c11).2 c12).2.2 (fun z23 S23 V23 mc23 ms23 hc24 => ?_))
          refine X_aload_n dX5_readSum_46 rfl ?_
          refine X_getfield (ci := 5) (k := 7) (v := vi (V23 x0 7)) dX5_readSum_47 rfl (by decide) kf_RX5_52 rfl hc24.1 ?_
          refine X_invS (as := [vi (V23 x0 7)]) (st := []) okX1_ofProduct dX5_readSum_50 km_RX5_254 rfl rfl (Nat.le_of_ble_eq_true rfl) (CT.imp hc24.2 (fun z25 S25 V25 mc25 ms25 hc26 => ?_))
          refine X_istore_n dX5_readSum_53 (by decide) rfl ?_
          refine X_iload_n dX5_readSum_54 rfl ?_
          refine X_if_ne dX5_readSum_55 (tgt := 79) rfl (fun c27 => ?_) (fun c27 => ?_)
          · exact (hc26.1 c27)
          · refine X_iload_n dX5_readSum_58 rfl ?_
            refine X_if_eq dX5_readSum_59 (tgt := 71) rfl (fun c28 => ?_) (fun c28 => ?_)
            · refine X_aload_n dX5_readSum_71 rfl ?_
              refine X_getfield (ci := 5) (k := 7) (v := vi (V25 x0 7)) dX5_readSum_72 rfl (by decide) kf_RX5_52 rfl ((hc26.2 c27).1 c28).1 ?_
              refine X_invS (as := [vi (V25 x0 7)]) (st := []) okX1_ofSum dX5_readSum_75 km_RX5_258 rfl rfl (Nat.le_of_ble_eq_true rfl) (CT.imp ((hc26.2 c27).1 c28).2 (fun z29 S29 V29 mc29 ms29 hc30 => ?_))
              refine X_istore_n dX5_readSum_78 (by decide) rfl ?_
              exact hc30
            · refine X_aload_n dX5_readSum_62 rfl ?_
              refine X_getfield (ci := 5) (k := 1) (v := vr (V25 x0 1)) dX5_readSum_63 rfl (by decide) kf_RX5_14 rfl ((hc26.2 c27).2 c28).1 ?_
              refine X_iload_n dX5_readSum_66 rfl ?_
              refine X_iconst dX5_readSum_67 (by decide) ?_
              refine X_invV (ci := 1) (as := [vi x2, vi 0]) (st := []) okX1_emit dX5_readSum_68 km_RX5_247 rfl rfl (Nat.le_of_ble_eq_true rfl) rfl rfl ((hc26.2 c27).2 c28).2.1 (CT.imp ((hc26.2 c27).2 c28).2.2 (fun z31 S31 V31 mc31 ms31 hc32 => ?_))
              refine X_aload_n dX5_readSum_71 rfl ?_
              refine X_getfield (ci := 5) (k := 7) (v := vi (V31 x0 7)) dX5_readSum_72 rfl (by decide) kf_RX5_52 rfl hc32.1 ?_
              refine X_invS (as := [vi (V31 x0 7)]) (st := []) okX1_ofSum dX5_readSum_75 km_RX5_258 rfl rfl (Nat.le_of_ble_eq_true rfl) (CT.imp hc32.2 (fun z33 S33 V33 mc33 ms33 hc34 => ?_))
              refine X_istore_n dX5_readSum_78 (by decide) rfl ?_
              exact hc34
      · refine X_iconst dX5_readSum_31 (by decide) ?_
        exact X_ret (z := 0) dX5_readSum_32 rfl (fun _ => Or.inl rfl) (hc10.2 c11)
set_option maxRecDepth 10000 in
theorem vX5_readSum_79 {l : Launch} {G : GT} {Q : Int → Sh → Mem → Prop} {d : Nat} {S : Sh} {V : Mem} {mc ms : Nat} {x0 x1 x2 x3 x4 x5 : Int} (h : (x3 ≠ 0 → S.1 x0 = 6 ∧ CT l G bX5_pass d mc ms [vr x0, vi 1, vi 2] S V (fun z2 S2 V2 mc2 ms2 => (z2 = 0 → -2147483648 ≤ x5 + 1 ∧ x5 + 1 ≤ 2147483647 ∧ XJ l G bX5_readSum Q d 10 [vr x0, vi x1, vi x2, vi x3, vi 0, vi (x5 + 1)] [] S2 V2 mc2 ms2) ∧ (¬ (z2 = 0) → -2147483648 ≤ x5 + 1 ∧ x5 + 1 ≤ 2147483647 ∧ XJ l G bX5_readSum Q d 10 [vr x0, vi x1, vi x2, vi x3, vi 1, vi (x5 + 1)] [] S2 V2 mc2 ms2))) ∧ (¬ (x3 ≠ 0) → (x2 = 0 → -2147483648 ≤ x5 + 1 ∧ x5 + 1 ≤ 2147483647 ∧ XJ l G bX5_readSum Q d 10 [vr x0, vi x1, vi x2, vi x3, vi 0, vi (x5 + 1)] [] S V mc ms) ∧ (¬ (x2 = 0) → S.1 x0 = 6 ∧ CT l G bX5_pass d mc ms [vr x0, vi 1, vi 2] S V (fun z6 S6 V6 mc6 ms6 => (z6 = 0 → -2147483648 ≤ x5 + 1 ∧ x5 + 1 ≤ 2147483647 ∧ XJ l G bX5_readSum Q d 10 [vr x0, vi x1, vi x2, vi x3, vi 0, vi (x5 + 1)] [] S6 V6 mc6 ms6) ∧ (¬ (z6 = 0) → -2147483648 ≤ x5 + 1 ∧ x5 + 1 ≤ 2147483647 ∧ XJ l G bX5_readSum Q d 10 [vr x0, vi x1, vi x2, vi x3, vi 1, vi (x5 + 1)] [] S6 V6 mc6 ms6))))) : XJ l G bX5_readSum Q d 79 [vr x0, vi x1, vi x2, vi x3, vi x4, vi x5] [] S V mc ms := by
  refine X_iload_n dX5_readSum_79 rfl ?_
  refine X_if_ne dX5_readSum_80 (tgt := 87) rfl (fun c1 => ?_) (fun c1 => ?_)
  · refine X_aload_n dX5_readSum_87 rfl ?_
    refine X_iconst dX5_readSum_88 (by decide) ?_
    refine X_iconst dX5_readSum_89 (by decide) ?_
    refine X_invV (ci := 5) (as := [vi 1, vi 2]) (st := []) okX5_pass dX5_readSum_90 km_RX5_48 rfl rfl (Nat.le_of_ble_eq_true rfl) rfl rfl (h.1 c1).1 (CT.imp (h.1 c1).2 (fun z2 S2 V2 mc2 ms2 hc3 => ?_))
    refine X_if_eq dX5_readSum_93 (tgt := 100) rfl (fun c4 => ?_) (fun c4 => ?_)
    · refine X_iconst dX5_readSum_100 (by decide) ?_
      refine X_istore dX5_readSum_101 (by decide) rfl ?_
      refine X_iincN dX5_readSum_103 rfl (by decide) rfl (e := x5 + 1) rfl (hc3.1 c4).1 (hc3.1 c4).2.1 ?_
      refine X_goto dX5_readSum_106 (tgt := 10) rfl ?_
      exact (hc3.1 c4).2.2
    · refine X_iconst dX5_readSum_96 (by decide) ?_
      refine X_goto dX5_readSum_97 (tgt := 101) rfl ?_
      refine X_istore dX5_readSum_101 (by decide) rfl ?_
      refine X_iincN dX5_readSum_103 rfl (by decide) rfl (e := x5 + 1) rfl (hc3.2 c4).1 (hc3.2 c4).2.1 ?_
      refine X_goto dX5_readSum_106 (tgt := 10) rfl ?_
      exact (hc3.2 c4).2.2
  · refine X_iload_n dX5_readSum_83 rfl ?_
    refine X_if_eq dX5_readSum_84 (tgt := 100) rfl (fun c5 => ?_) (fun c5 => ?_)
    · refine X_iconst dX5_readSum_100 (by decide) ?_
      refine X_istore dX5_readSum_101 (by decide) rfl ?_
      refine X_iincN dX5_readSum_103 rfl (by decide) rfl (e := x5 + 1) rfl ((h.2 c1).1 c5).1 ((h.2 c1).1 c5).2.1 ?_
      refine X_goto dX5_readSum_106 (tgt := 10) rfl ?_
      exact ((h.2 c1).1 c5).2.2
    · refine X_aload_n dX5_readSum_87 rfl ?_
      refine X_iconst dX5_readSum_88 (by decide) ?_
      refine X_iconst dX5_readSum_89 (by decide) ?_
      refine X_invV (ci := 5) (as := [vi 1, vi 2]) (st := []) okX5_pass dX5_readSum_90 km_RX5_48 rfl rfl (Nat.le_of_ble_eq_true rfl) rfl rfl ((h.2 c1).2 c5).1 (CT.imp ((h.2 c1).2 c5).2 (fun z6 S6 V6 mc6 ms6 hc7 => ?_))
      refine X_if_eq dX5_readSum_93 (tgt := 100) rfl (fun c8 => ?_) (fun c8 => ?_)
      · refine X_iconst dX5_readSum_100 (by decide) ?_
        refine X_istore dX5_readSum_101 (by decide) rfl ?_
        refine X_iincN dX5_readSum_103 rfl (by decide) rfl (e := x5 + 1) rfl (hc7.1 c8).1 (hc7.1 c8).2.1 ?_
        refine X_goto dX5_readSum_106 (tgt := 10) rfl ?_
        exact (hc7.1 c8).2.2
      · refine X_iconst dX5_readSum_96 (by decide) ?_
        refine X_goto dX5_readSum_97 (tgt := 101) rfl ?_
        refine X_istore dX5_readSum_101 (by decide) rfl ?_
        refine X_iincN dX5_readSum_103 rfl (by decide) rfl (e := x5 + 1) rfl (hc7.2 c8).1 (hc7.2 c8).2.1 ?_
        refine X_goto dX5_readSum_106 (tgt := 10) rfl ?_
        exact (hc7.2 c8).2.2
theorem qX5_readSum {l : Launch} {G : GT} {Q : Int → Sh → Mem → Prop} {d : Nat} {S : Sh} {V : Mem} {mc ms : Nat} {x0 x1 : Int} (h : 0 ≤ x0 → inI x1 → XJ l G bX5_readSum Q d 0 [vr x0, vi x1, vu, vu, vu, vu] [] S V mc ms) : Ct l G bX5_readSum Q d mc ms [vr x0, vi x1] S V := Ct.of okX5_readSum.1 trivial (Nat.le_of_ble_eq_true rfl) (fun hv => h (hv _ (List.mem_of_getElem? (i := 0) rfl)) (hv _ (List.mem_of_getElem? (i := 1) rfl)))
set_option maxRecDepth 10000 in
theorem vX5_readFactor_0 {l : Launch} {G : GT} {Q : Int → Sh → Mem → Prop} {d : Nat} {S : Sh} {V : Mem} {mc ms : Nat} {x0 x1 : Int} (h : (12 ≤ x1 → S.1 x0 = 6 ∧ ((V x0 7) = 2 → S.1 (V x0 1) = 2 ∧ CT l G bX1_emit d mc ms [vr (V x0 1), vi 1, vi (wr (V x0 8))] S V (fun z3 S3 V3 mc3 ms3 => S3.1 x0 = 6 ∧ CT l G bX5_pass d mc3 ms3 [vr x0, vi 1, vi 2] S3 V3 (fun z5 S5 V5 mc5 ms5 => (z5 = 0 ∨ z5 = 1) ∧ Q z5 S5 V5))) ∧ (¬ (V x0 7) = 2 → ((V x0 7) = 3 → CT l G bX5_readReference d mc ms [vr x0, vi x1] S V (fun z8 S8 V8 mc8 ms8 => (z8 = 0 ∨ z8 = 1) ∧ Q z8 S8 V8)) ∧ (¬ (V x0 7) = 3 → ((V x0 7) = 12 → S.1 (V x0 1) = 2 ∧ CT l G bX1_emit d mc ms [vr (V x0 1), vi 3, vi 0] S V (fun z11 S11 V11 mc11 ms11 => S11.1 x0 = 6 ∧ ((V11 x0 5) < 2 → CT l G bX5_pass d mc11 ms11 [vr x0, vi 0, vi 2] S11 V11 (fun z14 S14 V14 mc14 ms14 => (z14 = 0 ∨ z14 = 1) ∧ Q z14 S14 V14)) ∧ (¬ ((V11 x0 5) < 2) → CT l G bX5_pass d mc11 ms11 [vr x0, vi 1, vi 2] S11 V11 (fun z16 S16 V16 mc16 ms16 => (z16 = 0 ∨ z16 = 1) ∧ Q z16 S16 V16)))) ∧ (¬ (V x0 7) = 12 → ((V x0 7) = 13 → S.1 (V x0 1) = 2 ∧ CT l G bX1_emit d mc ms [vr (V x0 1), vi 2, vi 0] S V (fun z19 S19 V19 mc19 ms19 => S19.1 x0 = 6 ∧ ((V19 x0 5) < 1 → CT l G bX5_pass d mc19 ms19 [vr x0, vi 0, vi 2] S19 V19 (fun z22 S22 V22 mc22 ms22 => (z22 = 0 ∨ z22 = 1) ∧ Q z22 S22 V22)) ∧ (¬ ((V19 x0 5) < 1) → CT l G bX5_pass d mc19 ms19 [vr x0, vi 1, vi 2] S19 V19 (fun z24 S24 V24 mc24 ms24 => (z24 = 0 ∨ z24 = 1) ∧ Q z24 S24 V24)))) ∧ (¬ (V x0 7) = 13 → ((V x0 7) = 14 → S.1 (V x0 1) = 2 ∧ CT l G bX1_emit d mc ms [vr (V x0 1), vi 5, vi 0] S V (fun z27 S27 V27 mc27 ms27 => S27.1 x0 = 6 ∧ CT l G bX5_pass d mc27 ms27 [vr x0, vi 1, vi 2] S27 V27 (fun z29 S29 V29 mc29 ms29 => (z29 = 0 ∨ z29 = 1) ∧ Q z29 S29 V29))) ∧ (¬ (V x0 7) = 14 → ((V x0 7) = 15 → S.1 (V x0 1) = 2 ∧ CT l G bX1_emit d mc ms [vr (V x0 1), vi 4, vi 0] S V (fun z32 S32 V32 mc32 ms32 => S32.1 x0 = 6 ∧ ((V32 x0 5) < 3 → CT l G bX5_pass d mc32 ms32 [vr x0, vi 0, vi 2] S32 V32 (fun z35 S35 V35 mc35 ms35 => (z35 = 0 ∨ z35 = 1) ∧ Q z35 S35 V35)) ∧ (¬ ((V32 x0 5) < 3) → CT l G bX5_pass d mc32 ms32 [vr x0, vi 1, vi 2] S32 V32 (fun z37 S37 V37 mc37 ms37 => (z37 = 0 ∨ z37 = 1) ∧ Q z37 S37 V37)))) ∧ (¬ (V x0 7) = 15 → ((V x0 7) = 40 → CT l G bX5_pass d mc ms [vr x0, vi 0, vi 5] S V (fun z40 S40 V40 mc40 ms40 => (z40 = 0 → Q 0 S40 V40) ∧ (¬ (z40 = 0) → -2147483648 ≤ x1 + 1 ∧ x1 + 1 ≤ 2147483647 ∧ S40.1 x0 = 6 ∧ CT l G bX5_readSum d mc40 ms40 [vr x0, vi (x1 + 1)] S40 V40 (fun z43 S43 V43 mc43 ms43 => (z43 = 0 → Q 0 S43 V43) ∧ (¬ (z43 = 0) → S43.1 x0 = 6 ∧ ((V43 x0 7) ≠ 41 → CT l G bX5_pass d mc43 ms43 [vr x0, vi 0, vi 2] S43 V43 (fun z47 S47 V47 mc47 ms47 => (z47 = 0 → Q 0 S47 V47) ∧ (¬ (z47 = 0) → Q 1 S47 V47))) ∧ (¬ ((V43 x0 7) ≠ 41) → CT l G bX5_pass d mc43 ms43 [vr x0, vi 1, vi 2] S43 V43 (fun z50 S50 V50 mc50 ms50 => (z50 = 0 → Q 0 S50 V50) ∧ (¬ (z50 = 0) → Q 1 S50 V50)))))))) ∧ (¬ (V x0 7) = 40 → ((V x0 7) = 45 → CT l G bX5_pass d mc ms [vr x0, vi 0, vi 5] S V (fun z54 S54 V54 mc54 ms54 => (z54 = 0 → Q 0 S54 V54) ∧ (¬ (z54 = 0) → -2147483648 ≤ x1 + 1 ∧ x1 + 1 ≤ 2147483647 ∧ S54.1 x0 = 6 ∧ CT l G bX5_readFactor d mc54 ms54 [vr x0, vi (x1 + 1)] S54 V54 (fun z57 S57 V57 mc57 ms57 => (z57 ≠ 0 → S57.1 x0 = 6 ∧ S57.1 (V57 x0 1) = 2 ∧ CT l G bX1_emit d mc57 ms57 [vr (V57 x0 1), vi 6, vi 0] S57 V57 (fun z60 S60 V60 mc60 ms60 => Q 1 S60 V60)) ∧ (¬ (z57 ≠ 0) → Q 0 S57 V57))))) ∧ (¬ (V x0 7) = 45 → CT l G bX5_pass d mc ms [vr x0, vi 0, vi 2] S V (fun z62 S62 V62 mc62 ms62 => (z62 = 0 ∨ z62 = 1) ∧ Q z62 S62 V62)))))))))) ∧ (¬ (12 ≤ x1) → S.1 x0 = 6 ∧ ((V x0 7) = 2 → S.1 (V x0 1) = 2 ∧ CT l G bX1_emit d mc ms [vr (V x0 1), vi 1, vi (wr (V x0 8))] S V (fun z65 S65 V65 mc65 ms65 => S65.1 x0 = 6 ∧ CT l G bX5_pass d mc65 ms65 [vr x0, vi 1, vi 2] S65 V65 (fun z67 S67 V67 mc67 ms67 => (z67 = 0 ∨ z67 = 1) ∧ Q z67 S67 V67))) ∧ (¬ (V x0 7) = 2 → ((V x0 7) = 3 → CT l G bX5_readReference d mc ms [vr x0, vi x1] S V (fun z70 S70 V70 mc70 ms70 => (z70 = 0 ∨ z70 = 1) ∧ Q z70 S70 V70)) ∧ (¬ (V x0 7) = 3 → ((V x0 7) = 12 → S.1 (V x0 1) = 2 ∧ CT l G bX1_emit d mc ms [vr (V x0 1), vi 3, vi 0] S V (fun z73 S73 V73 mc73 ms73 => S73.1 x0 = 6 ∧ ((V73 x0 5) < 2 → CT l G bX5_pass d mc73 ms73 [vr x0, vi 0, vi 2] S73 V73 (fun z76 S76 V76 mc76 ms76 => (z76 = 0 ∨ z76 = 1) ∧ Q z76 S76 V76)) ∧ (¬ ((V73 x0 5) < 2) → CT l G bX5_pass d mc73 ms73 [vr x0, vi 1, vi 2] S73 V73 (fun z78 S78 V78 mc78 ms78 => (z78 = 0 ∨ z78 = 1) ∧ Q z78 S78 V78)))) ∧ (¬ (V x0 7) = 12 → ((V x0 7) = 13 → S.1 (V x0 1) = 2 ∧ CT l G bX1_emit d mc ms [vr (V x0 1), vi 2, vi 0] S V (fun z81 S81 V81 mc81 ms81 => S81.1 x0 = 6 ∧ ((V81 x0 5) < 1 → CT l G bX5_pass d mc81 ms81 [vr x0, vi 0, vi 2] S81 V81 (fun z84 S84 V84 mc84 ms84 => (z84 = 0 ∨ z84 = 1) ∧ Q z84 S84 V84)) ∧ (¬ ((V81 x0 5) < 1) → CT l G bX5_pass d mc81 ms81 [vr x0, vi 1, vi 2] S81 V81 (fun z86 S86 V86 mc86 ms86 => (z86 = 0 ∨ z86 = 1) ∧ Q z86 S86 V86)))) ∧ (¬ (V x0 7) = 13 → ((V x0 7) = 14 → S.1 (V x0 1) = 2 ∧ CT l G bX1_emit d mc ms [vr (V x0 1), vi 5, vi 0] S V (fun z89 S89 V89 mc89 ms89 => S89.1 x0 = 6 ∧ CT l G bX5_pass d mc89 ms89 [vr x0, vi 1, vi 2] S89 V89 (fun z91 S91 V91 mc91 ms91 => (z91 = 0 ∨ z91 = 1) ∧ Q z91 S91 V91))) ∧ (¬ (V x0 7) = 14 → ((V x0 7) = 15 → S.1 (V x0 1) = 2 ∧ CT l G bX1_emit d mc ms [vr (V x0 1), vi 4, vi 0] S V (fun z94 S94 V94 mc94 ms94 => S94.1 x0 = 6 ∧ ((V94 x0 5) < 3 → CT l G bX5_pass d mc94 ms94 [vr x0, vi 0, vi 2] S94 V94 (fun z97 S97 V97 mc97 ms97 => (z97 = 0 ∨ z97 = 1) ∧ Q z97 S97 V97)) ∧ (¬ ((V94 x0 5) < 3) → CT l G bX5_pass d mc94 ms94 [vr x0, vi 1, vi 2] S94 V94 (fun z99 S99 V99 mc99 ms99 => (z99 = 0 ∨ z99 = 1) ∧ Q z99 S99 V99)))) ∧ (¬ (V x0 7) = 15 → ((V x0 7) = 40 → CT l G bX5_pass d mc ms [vr x0, vi 1, vi 5] S V (fun z102 S102 V102 mc102 ms102 => (z102 = 0 → Q 0 S102 V102) ∧ (¬ (z102 = 0) → -2147483648 ≤ x1 + 1 ∧ x1 + 1 ≤ 2147483647 ∧ S102.1 x0 = 6 ∧ CT l G bX5_readSum d mc102 ms102 [vr x0, vi (x1 + 1)] S102 V102 (fun z105 S105 V105 mc105 ms105 => (z105 = 0 → Q 0 S105 V105) ∧ (¬ (z105 = 0) → S105.1 x0 = 6 ∧ ((V105 x0 7) ≠ 41 → CT l G bX5_pass d mc105 ms105 [vr x0, vi 0, vi 2] S105 V105 (fun z109 S109 V109 mc109 ms109 => (z109 = 0 → Q 0 S109 V109) ∧ (¬ (z109 = 0) → Q 1 S109 V109))) ∧ (¬ ((V105 x0 7) ≠ 41) → CT l G bX5_pass d mc105 ms105 [vr x0, vi 1, vi 2] S105 V105 (fun z112 S112 V112 mc112 ms112 => (z112 = 0 → Q 0 S112 V112) ∧ (¬ (z112 = 0) → Q 1 S112 V112)))))))) ∧ (¬ (V x0 7) = 40 → ((V x0 7) = 45 → CT l G bX5_pass d mc ms [vr x0, vi 1, vi 5] S V (fun z116 S116 V116 mc116 ms116 => (z116 = 0 → Q 0 S116 V116) ∧ (¬ (z116 = 0) → -2147483648 ≤ x1 + 1 ∧ x1 + 1 ≤ 2147483647 ∧ S116.1 x0 = 6 ∧ CT l G bX5_readFactor d mc116 ms116 [vr x0, vi (x1 + 1)] S116 V116 (fun z119 S119 V119 mc119 ms119 => (z119 ≠ 0 → S119.1 x0 = 6 ∧ S119.1 (V119 x0 1) = 2 ∧ CT l G bX1_emit d mc119 ms119 [vr (V119 x0 1), vi 6, vi 0] S119 V119 (fun z122 S122 V122 mc122 ms122 => Q 1 S122 V122)) ∧ (¬ (z119 ≠ 0) → Q 0 S119 V119))))) ∧ (¬ (V x0 7) = 45 → CT l G bX5_pass d mc ms [vr x0, vi 0, vi 2] S V (fun z124 S124 V124 mc124 ms124 => (z124 = 0 ∨ z124 = 1) ∧ Q z124 S124 V124))))))))))) : XJ l G bX5_readFactor Q d 0 [vr x0, vi x1, vu] [] S V mc ms := by
  refine X_iload_n dX5_readFactor_0 rfl ?_
  refine X_bipush dX5_readFactor_1 (by decide) (by decide) ?_
  refine X_icmp_ge dX5_readFactor_3 (tgt := 10) rfl (fun c1 => ?_) (fun c1 => ?_)
  · refine X_iconst dX5_readFactor_10 (by decide) ?_
    refine X_istore_n dX5_readFactor_11 (by decide) rfl ?_
    refine X_aload_n dX5_readFactor_12 rfl ?_
    refine X_getfield (ci := 5) (k := 7) (v := vi (V x0 7)) dX5_readFactor_13 rfl (by decide) kf_RX5_52 rfl (h.1 c1).1 ?_
    by_cases c2 : (V x0 7) = 2
    · refine X_lookup dX5_readFactor_16 (by decide) 92 76 (by rw [c2]; decide) rfl ?_
      refine X_aload_n dX5_readFactor_92 rfl ?_
      refine X_getfield (ci := 5) (k := 1) (v := vr (V x0 1)) dX5_readFactor_93 rfl (by decide) kf_RX5_14 rfl (h.1 c1).1 ?_
      refine X_iconst dX5_readFactor_96 (by decide) ?_
      refine X_aload_n dX5_readFactor_97 rfl ?_
      refine X_getfield (ci := 5) (k := 8) (v := vl (V x0 8)) dX5_readFactor_98 rfl (by decide) kf_RX5_86 rfl (h.1 c1).1 ?_
      refine X_l2i dX5_readFactor_101 ?_
      refine X_invV (ci := 1) (as := [vi 1, vi (wr (V x0 8))]) (st := []) okX1_emit dX5_readFactor_102 km_RX5_247 rfl rfl (Nat.le_of_ble_eq_true rfl) rfl rfl ((h.1 c1).2.1 c2).1 (CT.imp ((h.1 c1).2.1 c2).2 (fun z3 S3 V3 mc3 ms3 hc4 => ?_))
      refine X_aload_n dX5_readFactor_105 rfl ?_
      refine X_iconst dX5_readFactor_106 (by decide) ?_
      refine X_iconst dX5_readFactor_107 (by decide) ?_
      refine X_invV (ci := 5) (as := [vi 1, vi 2]) (st := []) okX5_pass dX5_readFactor_108 km_RX5_48 rfl rfl (Nat.le_of_ble_eq_true rfl) rfl rfl hc4.1 (CT.imp hc4.2 (fun z5 S5 V5 mc5 ms5 hc6 => ?_))
      exact X_ret (z := z5) dX5_readFactor_111 rfl (fun _ => hc6.1) hc6.2
    by_cases c7 : (V x0 7) = 3
    · refine X_lookup dX5_readFactor_16 (by decide) 212 196 (by rw [c7]; decide) rfl ?_
      refine X_aload_n dX5_readFactor_212 rfl ?_
      refine X_iload_n dX5_readFactor_213 rfl ?_
      refine X_invV (ci := 5) (as := [vi x1]) (st := []) okX5_readReference dX5_readFactor_214 km_RX5_261 rfl rfl (Nat.le_of_ble_eq_true rfl) rfl rfl (h.1 c1).1 (CT.imp (((h.1 c1).2.2 c2).1 c7) (fun z8 S8 V8 mc8 ms8 hc9 => ?_))
      exact X_ret (z := z8) dX5_readFactor_217 rfl (fun _ => hc9.1) hc9.2
    by_cases c10 : (V x0 7) = 12
    · refine X_lookup dX5_readFactor_16 (by decide) 156 140 (by rw [c10]; decide) rfl ?_
      refine X_aload_n dX5_readFactor_156 rfl ?_
      refine X_getfield (ci := 5) (k := 1) (v := vr (V x0 1)) dX5_readFactor_157 rfl (by decide) kf_RX5_14 rfl (h.1 c1).1 ?_
      refine X_iconst dX5_readFactor_160 (by decide) ?_
      refine X_iconst dX5_readFactor_161 (by decide) ?_
      refine X_invV (ci := 1) (as := [vi 3, vi 0]) (st := []) okX1_emit dX5_readFactor_162 km_RX5_247 rfl rfl (Nat.le_of_ble_eq_true rfl) rfl rfl ((((h.1 c1).2.2 c2).2 c7).1 c10).1 (CT.imp ((((h.1 c1).2.2 c2).2 c7).1 c10).2 (fun z11 S11 V11 mc11 ms11 hc12 => ?_))
      refine X_aload_n dX5_readFactor_165 rfl ?_
      refine X_aload_n dX5_readFactor_166 rfl ?_
      refine X_getfield (ci := 5) (k := 5) (v := vi (V11 x0 5)) dX5_readFactor_167 rfl (by decide) kf_RX5_141 rfl hc12.1 ?_
      refine X_iconst dX5_readFactor_170 (by decide) ?_
      refine X_icmp_lt dX5_readFactor_171 (tgt := 178) rfl (fun c13 => ?_) (fun c13 => ?_)
      · refine X_iconst dX5_readFactor_178 (by decide) ?_
        refine X_iconst dX5_readFactor_179 (by decide) ?_
        refine X_invV (ci := 5) (as := [vi 0, vi 2]) (st := []) okX5_pass dX5_readFactor_180 km_RX5_48 rfl rfl (Nat.le_of_ble_eq_true rfl) rfl rfl hc12.1 (CT.imp (hc12.2.1 c13) (fun z14 S14 V14 mc14 ms14 hc15 => ?_))
        exact X_ret (z := z14) dX5_readFactor_183 rfl (fun _ => hc15.1) hc15.2
      · refine X_iconst dX5_readFactor_174 (by decide) ?_
        refine X_goto dX5_readFactor_175 (tgt := 179) rfl ?_
        refine X_iconst dX5_readFactor_179 (by decide) ?_
        refine X_invV (ci := 5) (as := [vi 1, vi 2]) (st := []) okX5_pass dX5_readFactor_180 km_RX5_48 rfl rfl (Nat.le_of_ble_eq_true rfl) rfl rfl hc12.1 (CT.imp (hc12.2.2 c13) (fun z16 S16 V16 mc16 ms16 hc17 => ?_))
        exact X_ret (z := z16) dX5_readFactor_183 rfl (fun _ => hc17.1) hc17.2
    by_cases c18 : (V x0 7) = 13
    · refine X_lookup dX5_readFactor_16 (by decide) 128 112 (by rw [c18]; decide) rfl ?_
      refine X_aload_n dX5_readFactor_128 rfl ?_
      refine X_getfield (ci := 5) (k := 1) (v := vr (V x0 1)) dX5_readFactor_129 rfl (by decide) kf_RX5_14 rfl (h.1 c1).1 ?_
      refine X_iconst dX5_readFactor_132 (by decide) ?_
      refine X_iconst dX5_readFactor_133 (by decide) ?_
      refine X_invV (ci := 1) (as := [vi 2, vi 0]) (st := []) okX1_emit dX5_readFactor_134 km_RX5_247 rfl rfl (Nat.le_of_ble_eq_true rfl) rfl rfl (((((h.1 c1).2.2 c2).2 c7).2 c10).1 c18).1 (CT.imp (((((h.1 c1).2.2 c2).2 c7).2 c10).1 c18).2 (fun z19 S19 V19 mc19 ms19 hc20 => ?_))
      refine X_aload_n dX5_readFactor_137 rfl ?_
      refine X_aload_n dX5_readFactor_138 rfl ?_
      refine X_getfield (ci := 5) (k := 5) (v := vi (V19 x0 5)) dX5_readFactor_139 rfl (by decide) kf_RX5_141 rfl hc20.1 ?_
      refine X_iconst dX5_readFactor_142 (by decide) ?_
      refine X_icmp_lt dX5_readFactor_143 (tgt := 150) rfl (fun c21 => ?_) (fun c21 => ?_)
      · refine X_iconst dX5_readFactor_150 (by decide) ?_
        refine X_iconst dX5_readFactor_151 (by decide) ?_
        refine X_invV (ci := 5) (as := [vi 0, vi 2]) (st := []) okX5_pass dX5_readFactor_152 km_RX5_48 rfl rfl (Nat.le_of_ble_eq_true rfl) rfl rfl hc20.1 (CT.imp (hc20.2.1 c21) (fun z22 S22 V22 mc22 ms22 hc23 => ?_))
        exact X_ret (z := z22) dX5_readFactor_155 rfl (fun _ => hc23.1) hc23.2
      · refine X_iconst dX5_readFactor_146 (by decide) ?_
        refine X_goto dX5_readFactor_147 (tgt := 151) rfl ?_
        refine X_iconst dX5_readFactor_151 (by decide) ?_
        refine X_invV (ci := 5) (as := [vi 1, vi 2]) (st := []) okX5_pass dX5_readFactor_152 km_RX5_48 rfl rfl (Nat.le_of_ble_eq_true rfl) rfl rfl hc20.1 (CT.imp (hc20.2.2 c21) (fun z24 S24 V24 mc24 ms24 hc25 => ?_))
        exact X_ret (z := z24) dX5_readFactor_155 rfl (fun _ => hc25.1) hc25.2
    by_cases c26 : (V x0 7) = 14
    · refine X_lookup dX5_readFactor_16 (by decide) 112 96 (by rw [c26]; decide) rfl ?_
      refine X_aload_n dX5_readFactor_112 rfl ?_
      refine X_getfield (ci := 5) (k := 1) (v := vr (V x0 1)) dX5_readFactor_113 rfl (by decide) kf_RX5_14 rfl (h.1 c1).1 ?_
      refine X_iconst dX5_readFactor_116 (by decide) ?_
      refine X_iconst dX5_readFactor_117 (by decide) ?_
      refine X_invV (ci := 1) (as := [vi 5, vi 0]) (st := []) okX1_emit dX5_readFactor_118 km_RX5_247 rfl rfl (Nat.le_of_ble_eq_true rfl) rfl rfl ((((((h.1 c1).2.2 c2).2 c7).2 c10).2 c18).1 c26).1 (CT.imp ((((((h.1 c1).2.2 c2).2 c7).2 c10).2 c18).1 c26).2 (fun z27 S27 V27 mc27 ms27 hc28 => ?_))
      refine X_aload_n dX5_readFactor_121 rfl ?_
      refine X_iconst dX5_readFactor_122 (by decide) ?_
      refine X_iconst dX5_readFactor_123 (by decide) ?_
      refine X_invV (ci := 5) (as := [vi 1, vi 2]) (st := []) okX5_pass dX5_readFactor_124 km_RX5_48 rfl rfl (Nat.le_of_ble_eq_true rfl) rfl rfl hc28.1 (CT.imp hc28.2 (fun z29 S29 V29 mc29 ms29 hc30 => ?_))
      exact X_ret (z := z29) dX5_readFactor_127 rfl (fun _ => hc30.1) hc30.2
    by_cases c31 : (V x0 7) = 15
    · refine X_lookup dX5_readFactor_16 (by decide) 184 168 (by rw [c31]; decide) rfl ?_
      refine X_aload_n dX5_readFactor_184 rfl ?_
      refine X_getfield (ci := 5) (k := 1) (v := vr (V x0 1)) dX5_readFactor_185 rfl (by decide) kf_RX5_14 rfl (h.1 c1).1 ?_
      refine X_iconst dX5_readFactor_188 (by decide) ?_
      refine X_iconst dX5_readFactor_189 (by decide) ?_
      refine X_invV (ci := 1) (as := [vi 4, vi 0]) (st := []) okX1_emit dX5_readFactor_190 km_RX5_247 rfl rfl (Nat.le_of_ble_eq_true rfl) rfl rfl (((((((h.1 c1).2.2 c2).2 c7).2 c10).2 c18).2 c26).1 c31).1 (CT.imp (((((((h.1 c1).2.2 c2).2 c7).2 c10).2 c18).2 c26).1 c31).2 (fun z32 S32 V32 mc32 ms32 hc33 => ?_))
      refine X_aload_n dX5_readFactor_193 rfl ?_
      refine X_aload_n dX5_readFactor_194 rfl ?_
      refine X_getfield (ci := 5) (k := 5) (v := vi (V32 x0 5)) dX5_readFactor_195 rfl (by decide) kf_RX5_141 rfl hc33.1 ?_
      refine X_iconst dX5_readFactor_198 (by decide) ?_
      refine X_icmp_lt dX5_readFactor_199 (tgt := 206) rfl (fun c34 => ?_) (fun c34 => ?_)
      · refine X_iconst dX5_readFactor_206 (by decide) ?_
        refine X_iconst dX5_readFactor_207 (by decide) ?_
        refine X_invV (ci := 5) (as := [vi 0, vi 2]) (st := []) okX5_pass dX5_readFactor_208 km_RX5_48 rfl rfl (Nat.le_of_ble_eq_true rfl) rfl rfl hc33.1 (CT.imp (hc33.2.1 c34) (fun z35 S35 V35 mc35 ms35 hc36 => ?_))
        exact X_ret (z := z35) dX5_readFactor_211 rfl (fun _ => hc36.1) hc36.2
      · refine X_iconst dX5_readFactor_202 (by decide) ?_
        refine X_goto dX5_readFactor_203 (tgt := 207) rfl ?_
        refine X_iconst dX5_readFactor_207 (by decide) ?_
        refine X_invV (ci := 5) (as := [vi 1, vi 2]) (st := []) okX5_pass dX5_readFactor_208 km_RX5_48 rfl rfl (Nat.le_of_ble_eq_true rfl) rfl rfl hc33.1 (CT.imp (hc33.2.2 c34) (fun z37 S37 V37 mc37 ms37 hc38 => ?_))
        exact X_ret (z := z37) dX5_readFactor_211 rfl (fun _ => hc38.1) hc38.2
    by_cases c39 : (V x0 7) = 40
    · refine X_lookup dX5_readFactor_16 (by decide) 218 202 (by rw [c39]; decide) rfl ?_
      refine X_aload_n dX5_readFactor_218 rfl ?_
      refine X_iload_n dX5_readFactor_219 rfl ?_
      refine X_iconst dX5_readFactor_220 (by decide) ?_
      refine X_invV (ci := 5) (as := [vi 0, vi 5]) (st := []) okX5_pass dX5_readFactor_221 km_RX5_48 rfl rfl (Nat.le_of_ble_eq_true rfl) rfl rfl (h.1 c1).1 (CT.imp ((((((((h.1 c1).2.2 c2).2 c7).2 c10).2 c18).2 c26).2 c31).1 c39) (fun z40 S40 V40 mc40 ms40 hc41 => ?_))
      refine X_if_eq dX5_readFactor_224 (tgt := 263) rfl (fun c42 => ?_) (fun c42 => ?_)
      · refine X_iconst dX5_readFactor_263 (by decide) ?_
        exact X_ret (z := 0) dX5_readFactor_264 rfl (fun _ => Or.inl rfl) (hc41.1 c42)
      · refine X_aload_n dX5_readFactor_227 rfl ?_
        refine X_iload_n dX5_readFactor_228 rfl ?_
        refine X_iconst dX5_readFactor_229 (by decide) ?_
        refine X_iaddN dX5_readFactor_230 (hc41.2 c42).1 (hc41.2 c42).2.1 ?_
        refine X_invV (ci := 5) (as := [vi (x1 + 1)]) (st := []) okX5_readSum dX5_readFactor_231 km_RX5_144 rfl rfl (Nat.le_of_ble_eq_true rfl) rfl rfl (hc41.2 c42).2.2.1 (CT.imp (hc41.2 c42).2.2.2 (fun z43 S43 V43 mc43 ms43 hc44 => ?_))
        refine X_if_eq dX5_readFactor_234 (tgt := 263) rfl (fun c45 => ?_) (fun c45 => ?_)
        · refine X_iconst dX5_readFactor_263 (by decide) ?_
          exact X_ret (z := 0) dX5_readFactor_264 rfl (fun _ => Or.inl rfl) (hc44.1 c45)
        · refine X_aload_n dX5_readFactor_237 rfl ?_
          refine X_aload_n dX5_readFactor_238 rfl ?_
          refine X_getfield (ci := 5) (k := 7) (v := vi (V43 x0 7)) dX5_readFactor_239 rfl (by decide) kf_RX5_52 rfl (hc44.2 c45).1 ?_
          refine X_bipush dX5_readFactor_242 (by decide) (by decide) ?_
          refine X_icmp_ne dX5_readFactor_244 (tgt := 251) rfl (fun c46 => ?_) (fun c46 => ?_)
          · refine X_iconst dX5_readFactor_251 (by decide) ?_
            refine X_iconst dX5_readFactor_252 (by decide) ?_
            refine X_invV (ci := 5) (as := [vi 0, vi 2]) (st := []) okX5_pass dX5_readFactor_253 km_RX5_48 rfl rfl (Nat.le_of_ble_eq_true rfl) rfl rfl (hc44.2 c45).1 (CT.imp ((hc44.2 c45).2.1 c46) (fun z47 S47 V47 mc47 ms47 hc48 => ?_))
            refine X_if_eq dX5_readFactor_256 (tgt := 263) rfl (fun c49 => ?_) (fun c49 => ?_)
            · refine X_iconst dX5_readFactor_263 (by decide) ?_
              exact X_ret (z := 0) dX5_readFactor_264 rfl (fun _ => Or.inl rfl) (hc48.1 c49)
            · refine X_iconst dX5_readFactor_259 (by decide) ?_
              refine X_goto dX5_readFactor_260 (tgt := 264) rfl ?_
              exact X_ret (z := 1) dX5_readFactor_264 rfl (fun _ => Or.inr rfl) (hc48.2 c49)
          · refine X_iconst dX5_readFactor_247 (by decide) ?_
            refine X_goto dX5_readFactor_248 (tgt := 252) rfl ?_
            refine X_iconst dX5_readFactor_252 (by decide) ?_
            refine X_invV (ci := 5) (as := [vi 1, vi 2]) (st := []) okX5_pass dX5_readFactor_253 km_RX5_48 rfl rfl (Nat.le_of_ble_eq_true rfl) rfl rfl (hc44.2 c45).1 (CT.imp ((hc44.2 c45).2.2 c46) (fun z50 S50 V50 mc50 ms50 hc51 => ?_))
            refine X_if_eq dX5_readFactor_256 (tgt := 263) rfl (fun c52 => ?_) (fun c52 => ?_)
            · refine X_iconst dX5_readFactor_263 (by decide) ?_
              exact X_ret (z := 0) dX5_readFactor_264 rfl (fun _ => Or.inl rfl) (hc51.1 c52)
            · refine X_iconst dX5_readFactor_259 (by decide) ?_
              refine X_goto dX5_readFactor_260 (tgt := 264) rfl ?_
              exact X_ret (z := 1) dX5_readFactor_264 rfl (fun _ => Or.inr rfl) (hc51.2 c52)
    by_cases c53 : (V x0 7) = 45
    · refine X_lookup dX5_readFactor_16 (by decide) 265 249 (by rw [c53]; decide) rfl ?_
      refine X_aload_n dX5_readFactor_265 rfl ?_
      refine X_iload_n dX5_readFactor_266 rfl ?_
      refine X_iconst dX5_readFactor_267 (by decide) ?_
      refine X_invV (ci := 5) (as := [vi 0, vi 5]) (st := []) okX5_pass dX5_readFactor_268 km_RX5_48 rfl rfl (Nat.le_of_ble_eq_true rfl) rfl rfl (h.1 c1).1 (CT.imp (((((((((h.1 c1).2.2 c2).2 c7).2 c10).2 c18).2 c26).2 c31).2 c39).1 c53) (fun z54 S54 V54 mc54 ms54 hc55 => ?_))
      refine X_if_eq dX5_readFactor_271 (tgt := 284) rfl (fun c56 => ?_) (fun c56 => ?_)
      · refine X_iconst dX5_readFactor_284 (by decide) ?_
        exact X_ret (z := 0) dX5_readFactor_285 rfl (fun _ => Or.inl rfl) (hc55.1 c56)
      · refine X_aload_n dX5_readFactor_274 rfl ?_
        refine X_iload_n dX5_readFactor_275 rfl ?_
        refine X_iconst dX5_readFactor_276 (by decide) ?_
        refine X_iaddN dX5_readFactor_277 (hc55.2 c56).1 (hc55.2 c56).2.1 ?_
        refine X_invV (ci := 5) (as := [vi (x1 + 1)]) (st := []) okX5_readFactor dX5_readFactor_278 km_RX5_251 rfl rfl (Nat.le_of_ble_eq_true rfl) rfl rfl (hc55.2 c56).2.2.1 (CT.imp (hc55.2 c56).2.2.2 (fun z57 S57 V57 mc57 ms57 hc58 => ?_))
        refine X_if_ne dX5_readFactor_281 (tgt := 286) rfl (fun c59 => ?_) (fun c59 => ?_)
        · refine X_aload_n dX5_readFactor_286 rfl ?_
          refine X_getfield (ci := 5) (k := 1) (v := vr (V57 x0 1)) dX5_readFactor_287 rfl (by decide) kf_RX5_14 rfl (hc58.1 c59).1 ?_
          refine X_bipush dX5_readFactor_290 (by decide) (by decide) ?_
          refine X_iconst dX5_readFactor_292 (by decide) ?_
          refine X_invV (ci := 1) (as := [vi 6, vi 0]) (st := []) okX1_emit dX5_readFactor_293 km_RX5_247 rfl rfl (Nat.le_of_ble_eq_true rfl) rfl rfl (hc58.1 c59).2.1 (CT.imp (hc58.1 c59).2.2 (fun z60 S60 V60 mc60 ms60 hc61 => ?_))
          refine X_iconst dX5_readFactor_296 (by decide) ?_
          exact X_ret (z := 1) dX5_readFactor_297 rfl (fun _ => Or.inr rfl) hc61
        · refine X_iconst dX5_readFactor_284 (by decide) ?_
          exact X_ret (z := 0) dX5_readFactor_285 rfl (fun _ => Or.inl rfl) (hc58.2 c59)
    refine X_lookup dX5_readFactor_16 (by decide) 298 282 (by simp [Op.lookupswitch.offset_cons, Ne.symm c2, c2, Ne.symm c7, c7, Ne.symm c10, c10, Ne.symm c18, c18, Ne.symm c26, c26, Ne.symm c31, c31, Ne.symm c39, c39, Ne.symm c53, c53]; try rfl) rfl ?_
    refine X_aload_n dX5_readFactor_298 rfl ?_
    refine X_iconst dX5_readFactor_299 (by decide) ?_
    refine X_iconst dX5_readFactor_300 (by decide) ?_
    refine X_invV (ci := 5) (as := [vi 0, vi 2]) (st := []) okX5_pass dX5_readFactor_301 km_RX5_48 rfl rfl (Nat.le_of_ble_eq_true rfl) rfl rfl (h.1 c1).1 (CT.imp (((((((((h.1 c1).2.2 c2).2 c7).2 c10).2 c18).2 c26).2 c31).2 c39).2 c53) (fun z62 S62 V62 mc62 ms62 hc63 => ?_))
    exact X_ret (z := z62) dX5_readFactor_304 rfl (fun _ => hc63.1) hc63.2
  · refine X_iconst dX5_readFactor_6 (by decide) ?_
    refine X_goto dX5_readFactor_7 (tgt := 11) rfl ?_
    refine X_istore_n dX5_readFactor_11 (by decide) rfl ?_
    refine X_aload_n dX5_readFactor_12 rfl ?_
    refine X_getfield (ci := 5) (k := 7) (v := vi (V x0 7)) dX5_readFactor_13 rfl (by decide) kf_RX5_52 rfl (h.2 c1).1 ?_
    by_cases c64 : (V x0 7) = 2
    · refine X_lookup dX5_readFactor_16 (by decide) 92 76 (by rw [c64]; decide) rfl ?_
      refine X_aload_n dX5_readFactor_92 rfl ?_
      refine X_getfield (ci := 5) (k := 1) (v := vr (V x0 1)) dX5_readFactor_93 rfl (by decide) kf_RX5_14 rfl (h.2 c1).1 ?_
      refine X_iconst dX5_readFactor_96 (by decide) ?_
      refine X_aload_n dX5_readFactor_97 rfl ?_
      refine X_getfield (ci := 5) (k := 8) (v := vl (V x0 8)) dX5_readFactor_98 rfl (by decide) kf_RX5_86 rfl (h.2 c1).1 ?_
      refine X_l2i dX5_readFactor_101 ?_
      refine X_invV (ci := 1) (as := [vi 1, vi (wr (V x0 8))]) (st := []) okX1_emit dX5_readFactor_102 km_RX5_247 rfl rfl (Nat.le_of_ble_eq_true rfl) rfl rfl ((h.2 c1).2.1 c64).1 (CT.imp ((h.2 c1).2.1 c64).2 (fun z65 S65 V65 mc65 ms65 hc66 => ?_))
      refine X_aload_n dX5_readFactor_105 rfl ?_
      refine X_iconst dX5_readFactor_106 (by decide) ?_
      refine X_iconst dX5_readFactor_107 (by decide) ?_
      refine X_invV (ci := 5) (as := [vi 1, vi 2]) (st := []) okX5_pass dX5_readFactor_108 km_RX5_48 rfl rfl (Nat.le_of_ble_eq_true rfl) rfl rfl hc66.1 (CT.imp hc66.2 (fun z67 S67 V67 mc67 ms67 hc68 => ?_))
      exact X_ret (z := z67) dX5_readFactor_111 rfl (fun _ => hc68.1) hc68.2
    by_cases c69 : (V x0 7) = 3
    · refine X_lookup dX5_readFactor_16 (by decide) 212 196 (by rw [c69]; decide) rfl ?_
      refine X_aload_n dX5_readFactor_212 rfl ?_
      refine X_iload_n dX5_readFactor_213 rfl ?_
      refine X_invV (ci := 5) (as := [vi x1]) (st := []) okX5_readReference dX5_readFactor_214 km_RX5_261 rfl rfl (Nat.le_of_ble_eq_true rfl) rfl rfl (h.2 c1).1 (CT.imp (((h.2 c1).2.2 c64).1 c69) (fun z70 S70 V70 mc70 ms70 hc71 => ?_))
      exact X_ret (z := z70) dX5_readFactor_217 rfl (fun _ => hc71.1) hc71.2
    by_cases c72 : (V x0 7) = 12
    · refine X_lookup dX5_readFactor_16 (by decide) 156 140 (by rw [c72]; decide) rfl ?_
      refine X_aload_n dX5_readFactor_156 rfl ?_
      refine X_getfield (ci := 5) (k := 1) (v := vr (V x0 1)) dX5_readFactor_157 rfl (by decide) kf_RX5_14 rfl (h.2 c1).1 ?_
      refine X_iconst dX5_readFactor_160 (by decide) ?_
      refine X_iconst dX5_readFactor_161 (by decide) ?_
      refine X_invV (ci := 1) (as := [vi 3, vi 0]) (st := []) okX1_emit dX5_readFactor_162 km_RX5_247 rfl rfl (Nat.le_of_ble_eq_true rfl) rfl rfl ((((h.2 c1).2.2 c64).2 c69).1 c72).1 (CT.imp ((((h.2 c1).2.2 c64).2 c69).1 c72).2 (fun z73 S73 V73 mc73 ms73 hc74 => ?_))
      refine X_aload_n dX5_readFactor_165 rfl ?_
      refine X_aload_n dX5_readFactor_166 rfl ?_
      refine X_getfield (ci := 5) (k := 5) (v := vi (V73 x0 5)) dX5_readFactor_167 rfl (by decide) kf_RX5_141 rfl hc74.1 ?_
      refine X_iconst dX5_readFactor_170 (by decide) ?_
      refine X_icmp_lt dX5_readFactor_171 (tgt := 178) rfl (fun c75 => ?_) (fun c75 => ?_)
      · refine X_iconst dX5_readFactor_178 (by decide) ?_
        refine X_iconst dX5_readFactor_179 (by decide) ?_
        refine X_invV (ci := 5) (as := [vi 0, vi 2]) (st := []) okX5_pass dX5_readFactor_180 km_RX5_48 rfl rfl (Nat.le_of_ble_eq_true rfl) rfl rfl hc74.1 (CT.imp (hc74.2.1 c75) (fun z76 S76 V76 mc76 ms76 hc77 => ?_))
        exact X_ret (z := z76) dX5_readFactor_183 rfl (fun _ => hc77.1) hc77.2
      · refine X_iconst dX5_readFactor_174 (by decide) ?_
        refine X_goto dX5_readFactor_175 (tgt := 179) rfl ?_
        refine X_iconst dX5_readFactor_179 (by decide) ?_
        refine X_invV (ci := 5) (as := [vi 1, vi 2]) (st := []) okX5_pass dX5_readFactor_180 km_RX5_48 rfl rfl (Nat.le_of_ble_eq_true rfl) rfl rfl hc74.1 (CT.imp (hc74.2.2 c75) (fun z78 S78 V78 mc78 ms78 hc79 => ?_))
        exact X_ret (z := z78) dX5_readFactor_183 rfl (fun _ => hc79.1) hc79.2
    by_cases c80 : (V x0 7) = 13
    · refine X_lookup dX5_readFactor_16 (by decide) 128 112 (by rw [c80]; decide) rfl ?_
      refine X_aload_n dX5_readFactor_128 rfl ?_
      refine X_getfield (ci := 5) (k := 1) (v := vr (V x0 1)) dX5_readFactor_129 rfl (by decide) kf_RX5_14 rfl (h.2 c1).1 ?_
      refine X_iconst dX5_readFactor_132 (by decide) ?_
      refine X_iconst dX5_readFactor_133 (by decide) ?_
      refine X_invV (ci := 1) (as := [vi 2, vi 0]) (st := []) okX1_emit dX5_readFactor_134 km_RX5_247 rfl rfl (Nat.le_of_ble_eq_true rfl) rfl rfl (((((h.2 c1).2.2 c64).2 c69).2 c72).1 c80).1 (CT.imp (((((h.2 c1).2.2 c64).2 c69).2 c72).1 c80).2 (fun z81 S81 V81 mc81 ms81 hc82 => ?_))
      refine X_aload_n dX5_readFactor_137 rfl ?_
      refine X_aload_n dX5_readFactor_138 rfl ?_
      refine X_getfield (ci := 5) (k := 5) (v := vi (V81 x0 5)) dX5_readFactor_139 rfl (by decide) kf_RX5_141 rfl hc82.1 ?_
      refine X_iconst dX5_readFactor_142 (by decide) ?_
      refine X_icmp_lt dX5_readFactor_143 (tgt := 150) rfl (fun c83 => ?_) (fun c83 => ?_)
      · refine X_iconst dX5_readFactor_150 (by decide) ?_
        refine X_iconst dX5_readFactor_151 (by decide) ?_
        refine X_invV (ci := 5) (as := [vi 0, vi 2]) (st := []) okX5_pass dX5_readFactor_152 km_RX5_48 rfl rfl (Nat.le_of_ble_eq_true rfl) rfl rfl hc82.1 (CT.imp (hc82.2.1 c83) (fun z84 S84 V84 mc84 ms84 hc85 => ?_))
        exact X_ret (z := z84) dX5_readFactor_155 rfl (fun _ => hc85.1) hc85.2
      · refine X_iconst dX5_readFactor_146 (by decide) ?_
        refine X_goto dX5_readFactor_147 (tgt := 151) rfl ?_
        refine X_iconst dX5_readFactor_151 (by decide) ?_
        refine X_invV (ci := 5) (as := [vi 1, vi 2]) (st := []) okX5_pass dX5_readFactor_152 km_RX5_48 rfl rfl (Nat.le_of_ble_eq_true rfl) rfl rfl hc82.1 (CT.imp (hc82.2.2 c83) (fun z86 S86 V86 mc86 ms86 hc87 => ?_))
        exact X_ret (z := z86) dX5_readFactor_155 rfl (fun _ => hc87.1) hc87.2
    by_cases c88 : (V x0 7) = 14
    · refine X_lookup dX5_readFactor_16 (by decide) 112 96 (by rw [c88]; decide) rfl ?_
      refine X_aload_n dX5_readFactor_112 rfl ?_
      refine X_getfield (ci := 5) (k := 1) (v := vr (V x0 1)) dX5_readFactor_113 rfl (by decide) kf_RX5_14 rfl (h.2 c1).1 ?_
      refine X_iconst dX5_readFactor_116 (by decide) ?_
      refine X_iconst dX5_readFactor_117 (by decide) ?_
      refine X_invV (ci := 1) (as := [vi 5, vi 0]) (st := []) okX1_emit dX5_readFactor_118 km_RX5_247 rfl rfl (Nat.le_of_ble_eq_true rfl) rfl rfl ((((((h.2 c1).2.2 c64).2 c69).2 c72).2 c80).1 c88).1 (CT.imp ((((((h.2 c1).2.2 c64).2 c69).2 c72).2 c80).1 c88).2 (fun z89 S89 V89 mc89 ms89 hc90 => ?_))
      refine X_aload_n dX5_readFactor_121 rfl ?_
      refine X_iconst dX5_readFactor_122 (by decide) ?_
      refine X_iconst dX5_readFactor_123 (by decide) ?_
      refine X_invV (ci := 5) (as := [vi 1, vi 2]) (st := []) okX5_pass dX5_readFactor_124 km_RX5_48 rfl rfl (Nat.le_of_ble_eq_true rfl) rfl rfl hc90.1 (CT.imp hc90.2 (fun z91 S91 V91 mc91 ms91 hc92 => ?_))
      exact X_ret (z := z91) dX5_readFactor_127 rfl (fun _ => hc92.1) hc92.2
    by_cases c93 : (V x0 7) = 15
    · refine X_lookup dX5_readFactor_16 (by decide) 184 168 (by rw [c93]; decide) rfl ?_
      refine X_aload_n dX5_readFactor_184 rfl ?_
      refine X_getfield (ci := 5) (k := 1) (v := vr (V x0 1)) dX5_readFactor_185 rfl (by decide) kf_RX5_14 rfl (h.2 c1).1 ?_
      refine X_iconst dX5_readFactor_188 (by decide) ?_
      refine X_iconst dX5_readFactor_189 (by decide) ?_
      refine X_invV (ci := 1) (as := [vi 4, vi 0]) (st := []) okX1_emit dX5_readFactor_190 km_RX5_247 rfl rfl (Nat.le_of_ble_eq_true rfl) rfl rfl (((((((h.2 c1).2.2 c64).2 c69).2 c72).2 c80).2 c88).1 c93).1 (CT.imp (((((((h.2 c1).2.2 c64).2 c69).2 c72).2 c80).2 c88).1 c93).2 (fun z94 S94 V94 mc94 ms94 hc95 => ?_))
      refine X_aload_n dX5_readFactor_193 rfl ?_
      refine X_aload_n dX5_readFactor_194 rfl ?_
      refine X_getfield (ci := 5) (k := 5) (v := vi (V94 x0 5)) dX5_readFactor_195 rfl (by decide) kf_RX5_141 rfl hc95.1 ?_
      refine X_iconst dX5_readFactor_198 (by decide) ?_
      refine X_icmp_lt dX5_readFactor_199 (tgt := 206) rfl (fun c96 => ?_) (fun c96 => ?_)
      · refine X_iconst dX5_readFactor_206 (by decide) ?_
        refine X_iconst dX5_readFactor_207 (by decide) ?_
        refine X_invV (ci := 5) (as := [vi 0, vi 2]) (st := []) okX5_pass dX5_readFactor_208 km_RX5_48 rfl rfl (Nat.le_of_ble_eq_true rfl) rfl rfl hc95.1 (CT.imp (hc95.2.1 c96) (fun z97 S97 V97 mc97 ms97 hc98 => ?_))
        exact X_ret (z := z97) dX5_readFactor_211 rfl (fun _ => hc98.1) hc98.2
      · refine X_iconst dX5_readFactor_202 (by decide) ?_
        refine X_goto dX5_readFactor_203 (tgt := 207) rfl ?_
        refine X_iconst dX5_readFactor_207 (by decide) ?_
        refine X_invV (ci := 5) (as := [vi 1, vi 2]) (st := []) okX5_pass dX5_readFactor_208 km_RX5_48 rfl rfl (Nat.le_of_ble_eq_true rfl) rfl rfl hc95.1 (CT.imp (hc95.2.2 c96) (fun z99 S99 V99 mc99 ms99 hc100 => ?_))
        exact X_ret (z := z99) dX5_readFactor_211 rfl (fun _ => hc100.1) hc100.2
    by_cases c101 : (V x0 7) = 40
    · refine X_lookup dX5_readFactor_16 (by decide) 218 202 (by rw [c101]; decide) rfl ?_
      refine X_aload_n dX5_readFactor_218 rfl ?_
      refine X_iload_n dX5_readFactor_219 rfl ?_
      refine X_iconst dX5_readFactor_220 (by decide) ?_
      refine X_invV (ci := 5) (as := [vi 1, vi 5]) (st := []) okX5_pass dX5_readFactor_221 km_RX5_48 rfl rfl (Nat.le_of_ble_eq_true rfl) rfl rfl (h.2 c1).1 (CT.imp ((((((((h.2 c1).2.2 c64).2 c69).2 c72).2 c80).2 c88).2 c93).1 c101) (fun z102 S102 V102 mc102 ms102 hc103 => ?_))
      refine X_if_eq dX5_readFactor_224 (tgt := 263) rfl (fun c104 => ?_) (fun c104 => ?_)
      · refine X_iconst dX5_readFactor_263 (by decide) ?_
        exact X_ret (z := 0) dX5_readFactor_264 rfl (fun _ => Or.inl rfl) (hc103.1 c104)
      · refine X_aload_n dX5_readFactor_227 rfl ?_
        refine X_iload_n dX5_readFactor_228 rfl ?_
        refine X_iconst dX5_readFactor_229 (by decide) ?_
        refine X_iaddN dX5_readFactor_230 (hc103.2 c104).1 (hc103.2 c104).2.1 ?_
        refine X_invV (ci := 5) (as := [vi (x1 + 1)]) (st := []) okX5_readSum dX5_readFactor_231 km_RX5_144 rfl rfl (Nat.le_of_ble_eq_true rfl) rfl rfl (hc103.2 c104).2.2.1 (CT.imp (hc103.2 c104).2.2.2 (fun z105 S105 V105 mc105 ms105 hc106 => ?_))
        refine X_if_eq dX5_readFactor_234 (tgt := 263) rfl (fun c107 => ?_) (fun c107 => ?_)
        · refine X_iconst dX5_readFactor_263 (by decide) ?_
          exact X_ret (z := 0) dX5_readFactor_264 rfl (fun _ => Or.inl rfl) (hc106.1 c107)
        · refine X_aload_n dX5_readFactor_237 rfl ?_
          refine X_aload_n dX5_readFactor_238 rfl ?_
          refine X_getfield (ci := 5) (k := 7) (v := vi (V105 x0 7)) dX5_readFactor_239 rfl (by decide) kf_RX5_52 rfl (hc106.2 c107).1 ?_
          refine X_bipush dX5_readFactor_242 (by decide) (by decide) ?_
          refine X_icmp_ne dX5_readFactor_244 (tgt := 251) rfl (fun c108 => ?_) (fun c108 => ?_)
          · refine X_iconst dX5_readFactor_251 (by decide) ?_
            refine X_iconst dX5_readFactor_252 (by decide) ?_
            refine X_invV (ci := 5) (as := [vi 0, vi 2]) (st := []) okX5_pass dX5_readFactor_253 km_RX5_48 rfl rfl (Nat.le_of_ble_eq_true rfl) rfl rfl (hc106.2 c107).1 (CT.imp ((hc106.2 c107).2.1 c108) (fun z109 S109 V109 mc109 ms109 hc110 => ?_))
            refine X_if_eq dX5_readFactor_256 (tgt := 263) rfl (fun c111 => ?_) (fun c111 => ?_)
            · refine X_iconst dX5_readFactor_263 (by decide) ?_
              exact X_ret (z := 0) dX5_readFactor_264 rfl (fun _ => Or.inl rfl) (hc110.1 c111)
            · refine X_iconst dX5_readFactor_259 (by decide) ?_
              refine X_goto dX5_readFactor_260 (tgt := 264) rfl ?_
              exact X_ret (z := 1) dX5_readFactor_264 rfl (fun _ => Or.inr rfl) (hc110.2 c111)
          · refine X_iconst dX5_readFactor_247 (by decide) ?_
            refine X_goto dX5_readFactor_248 (tgt := 252) rfl ?_
            refine X_iconst dX5_readFactor_252 (by decide) ?_
            refine X_invV (ci := 5) (as := [vi 1, vi 2]) (st := []) okX5_pass dX5_readFactor_253 km_RX5_48 rfl rfl (Nat.le_of_ble_eq_true rfl) rfl rfl (hc106.2 c107).1 (CT.imp ((hc106.2 c107).2.2 c108) (fun z112 S112 V112 mc112 ms112 hc113 => ?_))
            refine X_if_eq dX5_readFactor_256 (tgt := 263) rfl (fun c114 => ?_) (fun c114 => ?_)
            · refine X_iconst dX5_readFactor_263 (by decide) ?_
              exact X_ret (z := 0) dX5_readFactor_264 rfl (fun _ => Or.inl rfl) (hc113.1 c114)
            · refine X_iconst dX5_readFactor_259 (by decide) ?_
              refine X_goto dX5_readFactor_260 (tgt := 264) rfl ?_
              exact X_ret (z := 1) dX5_readFactor_264 rfl (fun _ => Or.inr rfl) (hc113.2 c114)
    by_cases c115 : (V x0 7) = 45
    · refine X_lookup dX5_readFactor_16 (by decide) 265 249 (by rw [c115]; decide) rfl ?_
      refine X_aload_n dX5_readFactor_265 rfl ?_
      refine X_iload_n dX5_readFactor_266 rfl ?_
      refine X_iconst dX5_readFactor_267 (by decide) ?_
      refine X_invV (ci := 5) (as := [vi 1, vi 5]) (st := []) okX5_pass dX5_readFactor_268 km_RX5_48 rfl rfl (Nat.le_of_ble_eq_true rfl) rfl rfl (h.2 c1).1 (CT.imp (((((((((h.2 c1).2.2 c64).2 c69).2 c72).2 c80).2 c88).2 c93).2 c101).1 c115) (fun z116 S116 V116 mc116 ms116 hc117 => ?_))
      refine X_if_eq dX5_readFactor_271 (tgt := 284) rfl (fun c118 => ?_) (fun c118 => ?_)
      · refine X_iconst dX5_readFactor_284 (by decide) ?_
        exact X_ret (z := 0) dX5_readFactor_285 rfl (fun _ => Or.inl rfl) (hc117.1 c118)
      · refine X_aload_n dX5_readFactor_274 rfl ?_
        refine X_iload_n dX5_readFactor_275 rfl ?_
        refine X_iconst dX5_readFactor_276 (by decide) ?_
        refine X_iaddN dX5_readFactor_277 (hc117.2 c118).1 (hc117.2 c118).2.1 ?_
        refine X_invV (ci := 5) (as := [vi (x1 + 1)]) (st := []) okX5_readFactor dX5_readFactor_278 km_RX5_251 rfl rfl (Nat.le_of_ble_eq_true rfl) rfl rfl (hc117.2 c118).2.2.1 (CT.imp (hc117.2 c118).2.2.2 (fun z119 S119 V119 mc119 ms119 hc120 => ?_))
        refine X_if_ne dX5_readFactor_281 (tgt := 286) rfl (fun c121 => ?_) (fun c121 => ?_)
        · refine X_aload_n dX5_readFactor_286 rfl ?_
          refine X_getfield (ci := 5) (k := 1) (v := vr (V119 x0 1)) dX5_readFactor_287 rfl (by decide) kf_RX5_14 rfl (hc120.1 c121).1 ?_
          refine X_bipush dX5_readFactor_290 (by decide) (by decide) ?_
          refine X_iconst dX5_readFactor_292 (by decide) ?_
          refine X_invV (ci := 1) (as := [vi 6, vi 0]) (st := []) okX1_emit dX5_readFactor_293 km_RX5_247 rfl rfl (Nat.le_of_ble_eq_true rfl) rfl rfl (hc120.1 c121).2.1 (CT.imp (hc120.1 c121).2.2 (fun z122 S122 V122 mc122 ms122 hc123 => ?_))
          refine X_iconst dX5_readFactor_296 (by decide) ?_
          exact X_ret (z := 1) dX5_readFactor_297 rfl (fun _ => Or.inr rfl) hc123
        · refine X_iconst dX5_readFactor_284 (by decide) ?_
          exact X_ret (z := 0) dX5_readFactor_285 rfl (fun _ => Or.inl rfl) (hc120.2 c121)
    refine X_lookup dX5_readFactor_16 (by decide) 298 282 (by simp [Op.lookupswitch.offset_cons, Ne.symm c64, c64, Ne.symm c69, c69, Ne.symm c72, c72, Ne.symm c80, c80, Ne.symm c88, c88, Ne.symm c93, c93, Ne.symm c101, c101, Ne.symm c115, c115]; try rfl) rfl ?_
    refine X_aload_n dX5_readFactor_298 rfl ?_
    refine X_iconst dX5_readFactor_299 (by decide) ?_
    refine X_iconst dX5_readFactor_300 (by decide) ?_
    refine X_invV (ci := 5) (as := [vi 0, vi 2]) (st := []) okX5_pass dX5_readFactor_301 km_RX5_48 rfl rfl (Nat.le_of_ble_eq_true rfl) rfl rfl (h.2 c1).1 (CT.imp (((((((((h.2 c1).2.2 c64).2 c69).2 c72).2 c80).2 c88).2 c93).2 c101).2 c115) (fun z124 S124 V124 mc124 ms124 hc125 => ?_))
    exact X_ret (z := z124) dX5_readFactor_304 rfl (fun _ => hc125.1) hc125.2
theorem qX5_readFactor {l : Launch} {G : GT} {Q : Int → Sh → Mem → Prop} {d : Nat} {S : Sh} {V : Mem} {mc ms : Nat} {x0 x1 : Int} (h : 0 ≤ x0 → inI x1 → XJ l G bX5_readFactor Q d 0 [vr x0, vi x1, vu] [] S V mc ms) : Ct l G bX5_readFactor Q d mc ms [vr x0, vi x1] S V := Ct.of okX5_readFactor.1 trivial (Nat.le_of_ble_eq_true rfl) (fun hv => h (hv _ (List.mem_of_getElem? (i := 0) rfl)) (hv _ (List.mem_of_getElem? (i := 1) rfl)))
set_option maxRecDepth 10000 in
theorem vX5_readReference_0 {l : Launch} {G : GT} {Q : Int → Sh → Mem → Prop} {d : Nat} {S : Sh} {V : Mem} {mc ms : Nat} {x0 x1 : Int} (h : S.1 x0 = 6 ∧ CT l G bX5_pass d mc ms [vr x0, vi 1, vi 2] S V (fun z1 S1 V1 mc1 ms1 => S1.1 x0 = 6 ∧ ((V1 x0 7) ≠ 46 → XJ l G bX5_readReference Q d 51 [vr x0, vi x1, vi (V x0 6)] [] S1 V1 mc1 ms1) ∧ (¬ ((V1 x0 7) ≠ 46) → CT l G bX5_pass d mc1 ms1 [vr x0, vi 1, vi 2] S1 V1 (fun z4 S4 V4 mc4 ms4 => S4.1 x0 = 6 ∧ ((V4 x0 7) ≠ 3 → CT l G bX5_pass d mc4 ms4 [vr x0, vi 0, vi 2] S4 V4 (fun z7 S7 V7 mc7 ms7 => (z7 ≠ 0 → XJ l G bX5_readReference Q d 51 [vr x0, vi x1, vi (V x0 6)] [] S7 V7 mc7 ms7) ∧ (¬ (z7 ≠ 0) → Q 0 S7 V7))) ∧ (¬ ((V4 x0 7) ≠ 3) → CT l G bX5_pass d mc4 ms4 [vr x0, vi 1, vi 2] S4 V4 (fun z10 S10 V10 mc10 ms10 => (z10 ≠ 0 → XJ l G bX5_readReference Q d 51 [vr x0, vi x1, vi (V x0 6)] [] S10 V10 mc10 ms10) ∧ (¬ (z10 ≠ 0) → Q 0 S10 V10))))))) : XJ l G bX5_readReference Q d 0 [vr x0, vi x1, vu] [] S V mc ms := by
  refine X_aload_n dX5_readReference_0 rfl ?_
  refine X_getfield (ci := 5) (k := 6) (v := vi (V x0 6)) dX5_readReference_1 rfl (by decide) kf_RX5_45 rfl h.1 ?_
  refine X_istore_n dX5_readReference_4 (by decide) rfl ?_
  refine X_aload_n dX5_readReference_5 rfl ?_
  refine X_iconst dX5_readReference_6 (by decide) ?_
  refine X_iconst dX5_readReference_7 (by decide) ?_
  refine X_invV (ci := 5) (as := [vi 1, vi 2]) (st := []) okX5_pass dX5_readReference_8 km_RX5_48 rfl rfl (Nat.le_of_ble_eq_true rfl) rfl rfl h.1 (CT.imp h.2 (fun z1 S1 V1 mc1 ms1 hc2 => ?_))
  refine X_pop dX5_readReference_11 rfl ?_
  refine X_aload_n dX5_readReference_12 rfl ?_
  refine X_getfield (ci := 5) (k := 7) (v := vi (V1 x0 7)) dX5_readReference_13 rfl (by decide) kf_RX5_52 rfl hc2.1 ?_
  refine X_bipush dX5_readReference_16 (by decide) (by decide) ?_
  refine X_icmp_ne dX5_readReference_18 (tgt := 51) rfl (fun c3 => ?_) (fun c3 => ?_)
  · exact (hc2.2.1 c3)
  · refine X_aload_n dX5_readReference_21 rfl ?_
    refine X_iconst dX5_readReference_22 (by decide) ?_
    refine X_iconst dX5_readReference_23 (by decide) ?_
    refine X_invV (ci := 5) (as := [vi 1, vi 2]) (st := []) okX5_pass dX5_readReference_24 km_RX5_48 rfl rfl (Nat.le_of_ble_eq_true rfl) rfl rfl hc2.1 (CT.imp (hc2.2.2 c3) (fun z4 S4 V4 mc4 ms4 hc5 => ?_))
    refine X_pop dX5_readReference_27 rfl ?_
    refine X_aload_n dX5_readReference_28 rfl ?_
    refine X_aload_n dX5_readReference_29 rfl ?_
    refine X_getfield (ci := 5) (k := 7) (v := vi (V4 x0 7)) dX5_readReference_30 rfl (by decide) kf_RX5_52 rfl hc5.1 ?_
    refine X_iconst dX5_readReference_33 (by decide) ?_
    refine X_icmp_ne dX5_readReference_34 (tgt := 41) rfl (fun c6 => ?_) (fun c6 => ?_)
    · refine X_iconst dX5_readReference_41 (by decide) ?_
      refine X_iconst dX5_readReference_42 (by decide) ?_
      refine X_invV (ci := 5) (as := [vi 0, vi 2]) (st := []) okX5_pass dX5_readReference_43 km_RX5_48 rfl rfl (Nat.le_of_ble_eq_true rfl) rfl rfl hc5.1 (CT.imp (hc5.2.1 c6) (fun z7 S7 V7 mc7 ms7 hc8 => ?_))
      refine X_if_ne dX5_readReference_46 (tgt := 51) rfl (fun c9 => ?_) (fun c9 => ?_)
      · exact (hc8.1 c9)
      · refine X_iconst dX5_readReference_49 (by decide) ?_
        exact X_ret (z := 0) dX5_readReference_50 rfl (fun _ => Or.inl rfl) (hc8.2 c9)
    · refine X_iconst dX5_readReference_37 (by decide) ?_
      refine X_goto dX5_readReference_38 (tgt := 42) rfl ?_
      refine X_iconst dX5_readReference_42 (by decide) ?_
      refine X_invV (ci := 5) (as := [vi 1, vi 2]) (st := []) okX5_pass dX5_readReference_43 km_RX5_48 rfl rfl (Nat.le_of_ble_eq_true rfl) rfl rfl hc5.1 (CT.imp (hc5.2.2 c6) (fun z10 S10 V10 mc10 ms10 hc11 => ?_))
      refine X_if_ne dX5_readReference_46 (tgt := 51) rfl (fun c12 => ?_) (fun c12 => ?_)
      · exact (hc11.1 c12)
      · refine X_iconst dX5_readReference_49 (by decide) ?_
        exact X_ret (z := 0) dX5_readReference_50 rfl (fun _ => Or.inl rfl) (hc11.2 c12)
set_option maxRecDepth 10000 in
theorem vX5_readReference_51 {l : Launch} {G : GT} {Q : Int → Sh → Mem → Prop} {d : Nat} {S : Sh} {V : Mem} {mc ms : Nat} {x0 x1 x2 : Int} (h : S.1 x0 = 6 ∧ ((V x0 7) = 91 → S.1 (V x0 1) = 2 ∧ CT l G bX1_emit d mc ms [vr (V x0 1), vi 12, vi x2] S V (fun z2 S2 V2 mc2 ms2 => (12 ≤ x1 → S2.1 x0 = 6 ∧ CT l G bX5_pass d mc2 ms2 [vr x0, vi 0, vi 5] S2 V2 (fun z5 S5 V5 mc5 ms5 => (z5 = 0 → Q 0 S5 V5) ∧ (¬ (z5 = 0) → -2147483648 ≤ x1 + 1 ∧ x1 + 1 ≤ 2147483647 ∧ S5.1 x0 = 6 ∧ CT l G bX5_readSum d mc5 ms5 [vr x0, vi (x1 + 1)] S5 V5 (fun z8 S8 V8 mc8 ms8 => (z8 = 0 → Q 0 S8 V8) ∧ (¬ (z8 = 0) → S8.1 x0 = 6 ∧ ((V8 x0 7) ≠ 93 → CT l G bX5_pass d mc8 ms8 [vr x0, vi 0, vi 2] S8 V8 (fun z12 S12 V12 mc12 ms12 => (z12 ≠ 0 → S12.1 x0 = 6 ∧ S12.1 (V12 x0 1) = 2 ∧ CT l G bX1_emit d mc12 ms12 [vr (V12 x0 1), vi 13, vi x2] S12 V12 (fun z15 S15 V15 mc15 ms15 => Q 1 S15 V15)) ∧ (¬ (z12 ≠ 0) → Q 0 S12 V12))) ∧ (¬ ((V8 x0 7) ≠ 93) → CT l G bX5_pass d mc8 ms8 [vr x0, vi 1, vi 2] S8 V8 (fun z17 S17 V17 mc17 ms17 => (z17 ≠ 0 → S17.1 x0 = 6 ∧ S17.1 (V17 x0 1) = 2 ∧ CT l G bX1_emit d mc17 ms17 [vr (V17 x0 1), vi 13, vi x2] S17 V17 (fun z20 S20 V20 mc20 ms20 => Q 1 S20 V20)) ∧ (¬ (z17 ≠ 0) → Q 0 S17 V17)))))))) ∧ (¬ (12 ≤ x1) → S2.1 x0 = 6 ∧ CT l G bX5_pass d mc2 ms2 [vr x0, vi 1, vi 5] S2 V2 (fun z22 S22 V22 mc22 ms22 => (z22 = 0 → Q 0 S22 V22) ∧ (¬ (z22 = 0) → -2147483648 ≤ x1 + 1 ∧ x1 + 1 ≤ 2147483647 ∧ S22.1 x0 = 6 ∧ CT l G bX5_readSum d mc22 ms22 [vr x0, vi (x1 + 1)] S22 V22 (fun z25 S25 V25 mc25 ms25 => (z25 = 0 → Q 0 S25 V25) ∧ (¬ (z25 = 0) → S25.1 x0 = 6 ∧ ((V25 x0 7) ≠ 93 → CT l G bX5_pass d mc25 ms25 [vr x0, vi 0, vi 2] S25 V25 (fun z29 S29 V29 mc29 ms29 => (z29 ≠ 0 → S29.1 x0 = 6 ∧ S29.1 (V29 x0 1) = 2 ∧ CT l G bX1_emit d mc29 ms29 [vr (V29 x0 1), vi 13, vi x2] S29 V29 (fun z32 S32 V32 mc32 ms32 => Q 1 S32 V32)) ∧ (¬ (z29 ≠ 0) → Q 0 S29 V29))) ∧ (¬ ((V25 x0 7) ≠ 93) → CT l G bX5_pass d mc25 ms25 [vr x0, vi 1, vi 2] S25 V25 (fun z34 S34 V34 mc34 ms34 => (z34 ≠ 0 → S34.1 x0 = 6 ∧ S34.1 (V34 x0 1) = 2 ∧ CT l G bX1_emit d mc34 ms34 [vr (V34 x0 1), vi 13, vi x2] S34 V34 (fun z37 S37 V37 mc37 ms37 => Q 1 S37 V37)) ∧ (¬ (z34 ≠ 0) → Q 0 S34 V34)))))))))) ∧ (¬ ((V x0 7) = 91) → S.1 (V x0 1) = 2 ∧ CT l G bX1_emit d mc ms [vr (V x0 1), vi 11, vi x2] S V (fun z39 S39 V39 mc39 ms39 => Q 1 S39 V39))) : XJ l G bX5_readReference Q d 51 [vr x0, vi x1, vi x2] [] S V mc ms := by
  refine X_aload_n dX5_readReference_51 rfl ?_
  refine X_getfield (ci := 5) (k := 7) (v := vi (V x0 7)) dX5_readReference_52 rfl (by decide) kf_RX5_52 rfl h.1 ?_
  refine X_bipush dX5_readReference_55 (by decide) (by decide) ?_
  refine X_icmp_eq dX5_readReference_57 (tgt := 72) rfl (fun c1 => ?_) (fun c1 => ?_)
  · refine X_aload_n dX5_readReference_72 rfl ?_
    refine X_getfield (ci := 5) (k := 1) (v := vr (V x0 1)) dX5_readReference_73 rfl (by decide) kf_RX5_14 rfl h.1 ?_
    refine X_bipush dX5_readReference_76 (by decide) (by decide) ?_
    refine X_iload_n dX5_readReference_78 rfl ?_
    refine X_invV (ci := 1) (as := [vi 12, vi x2]) (st := []) okX1_emit dX5_readReference_79 km_RX5_247 rfl rfl (Nat.le_of_ble_eq_true rfl) rfl rfl (h.2.1 c1).1 (CT.imp (h.2.1 c1).2 (fun z2 S2 V2 mc2 ms2 hc3 => ?_))
    refine X_aload_n dX5_readReference_82 rfl ?_
    refine X_iload_n dX5_readReference_83 rfl ?_
    refine X_bipush dX5_readReference_84 (by decide) (by decide) ?_
    refine X_icmp_ge dX5_readReference_86 (tgt := 93) rfl (fun c4 => ?_) (fun c4 => ?_)
    · refine X_iconst dX5_readReference_93 (by decide) ?_
      refine X_iconst dX5_readReference_94 (by decide) ?_
      refine X_invV (ci := 5) (as := [vi 0, vi 5]) (st := []) okX5_pass dX5_readReference_95 km_RX5_48 rfl rfl (Nat.le_of_ble_eq_true rfl) rfl rfl (hc3.1 c4).1 (CT.imp (hc3.1 c4).2 (fun z5 S5 V5 mc5 ms5 hc6 => ?_))
      refine X_if_eq dX5_readReference_98 (tgt := 133) rfl (fun c7 => ?_) (fun c7 => ?_)
      · refine X_iconst dX5_readReference_133 (by decide) ?_
        exact X_ret (z := 0) dX5_readReference_134 rfl (fun _ => Or.inl rfl) (hc6.1 c7)
      · refine X_aload_n dX5_readReference_101 rfl ?_
        refine X_iload_n dX5_readReference_102 rfl ?_
        refine X_iconst dX5_readReference_103 (by decide) ?_
        refine X_iaddN dX5_readReference_104 (hc6.2 c7).1 (hc6.2 c7).2.1 ?_
        refine X_invV (ci := 5) (as := [vi (x1 + 1)]) (st := []) okX5_readSum dX5_readReference_105 km_RX5_144 rfl rfl (Nat.le_of_ble_eq_true rfl) rfl rfl (hc6.2 c7).2.2.1 (CT.imp (hc6.2 c7).2.2.2 (fun z8 S8 V8 mc8 ms8 hc9 => ?_))
        refine X_if_eq dX5_readReference_108 (tgt := 133) rfl (fun c10 => ?_) (fun c10 => ?_)
        · refine X_iconst dX5_readReference_133 (by decide) ?_
          exact X_ret (z := 0) dX5_readReference_134 rfl (fun _ => Or.inl rfl) (hc9.1 c10)
        · refine X_aload_n dX5_readReference_111 rfl ?_
          refine X_aload_n dX5_readReference_112 rfl ?_
          refine X_getfield (ci := 5) (k := 7) (v := vi (V8 x0 7)) dX5_readReference_113 rfl (by decide) kf_RX5_52 rfl (hc9.2 c10).1 ?_
          refine X_bipush dX5_readReference_116 (by decide) (by decide) ?_
          refine X_icmp_ne dX5_readReference_118 (tgt := 125) rfl (fun c11 => ?_) (fun c11 => ?_)
          · refine X_iconst dX5_readReference_125 (by decide) ?_
            refine X_iconst dX5_readReference_126 (by decide) ?_
            refine X_invV (ci := 5) (as := [vi 0, vi 2]) (st := []) okX5_pass dX5_readReference_127 km_RX5_48 rfl rfl (Nat.le_of_ble_eq_true rfl) rfl rfl (hc9.2 c10).1 (CT.imp ((hc9.2 c10).2.1 c11) (fun z12 S12 V12 mc12 ms12 hc13 => ?_))
            refine X_if_ne dX5_readReference_130 (tgt := 135) rfl (fun c14 => ?_) (fun c14 => ?_)
            · refine X_aload_n dX5_readReference_135 rfl ?_
              refine X_getfield (ci := 5) (k := 1) (v := vr (V12 x0 1)) dX5_readReference_136 rfl (by decide) kf_RX5_14 rfl (hc13.1 c14).1 ?_
              refine X_bipush dX5_readReference_139 (by decide) (by decide) ?_
              refine X_iload_n dX5_readReference_141 rfl ?_
              refine X_invV (ci := 1) (as := [vi 13, vi x2]) (st := []) okX1_emit dX5_readReference_142 km_RX5_247 rfl rfl (Nat.le_of_ble_eq_true rfl) rfl rfl (hc13.1 c14).2.1 (CT.imp (hc13.1 c14).2.2 (fun z15 S15 V15 mc15 ms15 hc16 => ?_))
              refine X_iconst dX5_readReference_145 (by decide) ?_
              exact X_ret (z := 1) dX5_readReference_146 rfl (fun _ => Or.inr rfl) hc16
            · refine X_iconst dX5_readReference_133 (by decide) ?_
              exact X_ret (z := 0) dX5_readReference_134 rfl (fun _ => Or.inl rfl) (hc13.2 c14)
          · refine X_iconst dX5_readReference_121 (by decide) ?_
            refine X_goto dX5_readReference_122 (tgt := 126) rfl ?_
            refine X_iconst dX5_readReference_126 (by decide) ?_
            refine X_invV (ci := 5) (as := [vi 1, vi 2]) (st := []) okX5_pass dX5_readReference_127 km_RX5_48 rfl rfl (Nat.le_of_ble_eq_true rfl) rfl rfl (hc9.2 c10).1 (CT.imp ((hc9.2 c10).2.2 c11) (fun z17 S17 V17 mc17 ms17 hc18 => ?_))
            refine X_if_ne dX5_readReference_130 (tgt := 135) rfl (fun c19 => ?_) (fun c19 => ?_)
            · refine X_aload_n dX5_readReference_135 rfl ?_
              refine X_getfield (ci := 5) (k := 1) (v := vr (V17 x0 1)) dX5_readReference_136 rfl (by decide) kf_RX5_14 rfl (hc18.1 c19).1 ?_
              refine X_bipush dX5_readReference_139 (by decide) (by decide) ?_
              refine X_iload_n dX5_readReference_141 rfl ?_
              refine X_invV (ci := 1) (as := [vi 13, vi x2]) (st := []) okX1_emit dX5_readReference_142 km_RX5_247 rfl rfl (Nat.le_of_ble_eq_true rfl) rfl rfl (hc18.1 c19).2.1 (CT.imp (hc18.1 c19).2.2 (fun z20 S20 V20 mc20 ms20 hc21 => ?_))
              refine X_iconst dX5_readReference_145 (by decide) ?_
              exact X_ret (z := 1) dX5_readReference_146 rfl (fun _ => Or.inr rfl) hc21
            · refine X_iconst dX5_readReference_133 (by decide) ?_
              exact X_ret (z := 0) dX5_readReference_134 rfl (fun _ => Or.inl rfl) (hc18.2 c19)
    · refine X_iconst dX5_readReference_89 (by decide) ?_
      refine X_goto dX5_readReference_90 (tgt := 94) rfl ?_
      refine X_iconst dX5_readReference_94 (by decide) ?_
      refine X_invV (ci := 5) (as := [vi 1, vi 5]) (st := []) okX5_pass dX5_readReference_95 km_RX5_48 rfl rfl (Nat.le_of_ble_eq_true rfl) rfl rfl (hc3.2 c4).1 (CT.imp (hc3.2 c4).2 (fun z22 S22 V22 mc22 ms22 hc23 => ?_))
      refine X_if_eq dX5_readReference_98 (tgt := 133) rfl (fun c24 => ?_) (fun c24 => ?_)
      · refine X_iconst dX5_readReference_133 (by decide) ?_
        exact X_ret (z := 0) dX5_readReference_134 rfl (fun _ => Or.inl rfl) (hc23.1 c24)
      · refine X_aload_n dX5_readReference_101 rfl ?_
        refine X_iload_n dX5_readReference_102 rfl ?_
        refine X_iconst dX5_readReference_103 (by decide) ?_
        refine X_iaddN dX5_readReference_104 (hc23.2 c24).1 (hc23.2 c24).2.1 ?_
        refine X_invV (ci := 5) (as := [vi (x1 + 1)]) (st := []) okX5_readSum dX5_readReference_105 km_RX5_144 rfl rfl (Nat.le_of_ble_eq_true rfl) rfl rfl (hc23.2 c24).2.2.1 (CT.imp (hc23.2 c24).2.2.2 (fun z25 S25 V25 mc25 ms25 hc26 => ?_))
        refine X_if_eq dX5_readReference_108 (tgt := 133) rfl (fun c27 => ?_) (fun c27 => ?_)
        · refine X_iconst dX5_readReference_133 (by decide) ?_
          exact X_ret (z := 0) dX5_readReference_134 rfl (fun _ => Or.inl rfl) (hc26.1 c27)
        · refine X_aload_n dX5_readReference_111 rfl ?_
          refine X_aload_n dX5_readReference_112 rfl ?_
          refine X_getfield (ci := 5) (k := 7) (v := vi (V25 x0 7)) dX5_readReference_113 rfl (by decide) kf_RX5_52 rfl (hc26.2 c27).1 ?_
          refine X_bipush dX5_readReference_116 (by decide) (by decide) ?_
          refine X_icmp_ne dX5_readReference_118 (tgt := 125) rfl (fun c28 => ?_) (fun c28 => ?_)
          · refine X_iconst dX5_readReference_125 (by decide) ?_
            refine X_iconst dX5_readReference_126 (by decide) ?_
            refine X_invV (ci := 5) (as := [vi 0, vi 2]) (st := []) okX5_pass dX5_readReference_127 km_RX5_48 rfl rfl (Nat.le_of_ble_eq_true rfl) rfl rfl (hc26.2 c27).1 (CT.imp ((hc26.2 c27).2.1 c28) (fun z29 S29 V29 mc29 ms29 hc30 => ?_))
            refine X_if_ne dX5_readReference_130 (tgt := 135) rfl (fun c31 => ?_) (fun c31 => ?_)
            · refine X_aload_n dX5_readReference_135 rfl ?_
              refine X_getfield (ci := 5) (k := 1) (v := vr (V29 x0 1)) dX5_readReference_136 rfl (by decide) kf_RX5_14 rfl (hc30.1 c31).1 ?_
              refine X_bipush dX5_readReference_139 (by decide) (by decide) ?_
              refine X_iload_n dX5_readReference_141 rfl ?_
              refine X_invV (ci := 1) (as := [vi 13, vi x2]) (st := []) okX1_emit dX5_readReference_142 km_RX5_247 rfl rfl (Nat.le_of_ble_eq_true rfl) rfl rfl (hc30.1 c31).2.1 (CT.imp (hc30.1 c31).2.2 (fun z32 S32 V32 mc32 ms32 hc33 => ?_))
              refine X_iconst dX5_readReference_145 (by decide) ?_
              exact X_ret (z := 1) dX5_readReference_146 rfl (fun _ => Or.inr rfl) hc33
            · refine X_iconst dX5_readReference_133 (by decide) ?_
              exact X_ret (z := 0) dX5_readReference_134 rfl (fun _ => Or.inl rfl) (hc30.2 c31)
          · refine X_iconst dX5_readReference_121 (by decide) ?_
            refine X_goto dX5_readReference_122 (tgt := 126) rfl ?_
            refine X_iconst dX5_readReference_126 (by decide) ?_
            refine X_invV (ci := 5) (as := [vi 1, vi 2]) (st := []) okX5_pass dX5_readReference_127 km_RX5_48 rfl rfl (Nat.le_of_ble_eq_true rfl) rfl rfl (hc26.2 c27).1 (CT.imp ((hc26.2 c27).2.2 c28) (fun z34 S34 V34 mc34 ms34 hc35 => ?_))
            refine X_if_ne dX5_readReference_130 (tgt := 135) rfl (fun c36 => ?_) (fun c36 => ?_)
            · refine X_aload_n dX5_readReference_135 rfl ?_
              refine X_getfield (ci := 5) (k := 1) (v := vr (V34 x0 1)) dX5_readReference_136 rfl (by decide) kf_RX5_14 rfl (hc35.1 c36).1 ?_
              refine X_bipush dX5_readReference_139 (by decide) (by decide) ?_
              refine X_iload_n dX5_readReference_141 rfl ?_
              refine X_invV (ci := 1) (as := [vi 13, vi x2]) (st := []) okX1_emit dX5_readReference_142 km_RX5_247 rfl rfl (Nat.le_of_ble_eq_true rfl) rfl rfl (hc35.1 c36).2.1 (CT.imp (hc35.1 c36).2.2 (fun z37 S37 V37 mc37 ms37 hc38 => ?_))
              refine X_iconst dX5_readReference_145 (by decide) ?_
              exact X_ret (z := 1) dX5_readReference_146 rfl (fun _ => Or.inr rfl) hc38
            · refine X_iconst dX5_readReference_133 (by decide) ?_
              exact X_ret (z := 0) dX5_readReference_134 rfl (fun _ => Or.inl rfl) (hc35.2 c36)
  · refine X_aload_n dX5_readReference_60 rfl ?_
    refine X_getfield (ci := 5) (k := 1) (v := vr (V x0 1)) dX5_readReference_61 rfl (by decide) kf_RX5_14 rfl h.1 ?_
    refine X_bipush dX5_readReference_64 (by decide) (by decide) ?_
    refine X_iload_n dX5_readReference_66 rfl ?_
    refine X_invV (ci := 1) (as := [vi 11, vi x2]) (st := []) okX1_emit dX5_readReference_67 km_RX5_247 rfl rfl (Nat.le_of_ble_eq_true rfl) rfl rfl (h.2.2 c1).1 (CT.imp (h.2.2 c1).2 (fun z39 S39 V39 mc39 ms39 hc40 => ?_))
    refine X_iconst dX5_readReference_70 (by decide) ?_
    exact X_ret (z := 1) dX5_readReference_71 rfl (fun _ => Or.inr rfl) hc40
theorem qX5_readReference {l : Launch} {G : GT} {Q : Int → Sh → Mem → Prop} {d : Nat} {S : Sh} {V : Mem} {mc ms : Nat} {x0 x1 : Int} (h : 0 ≤ x0 → inI x1 → XJ l G bX5_readReference Q d 0 [vr x0, vi x1, vu] [] S V mc ms) : Ct l G bX5_readReference Q d mc ms [vr x0, vi x1] S V := Ct.of okX5_readReference.1 trivial (Nat.le_of_ble_eq_true rfl) (fun hv => h (hv _ (List.mem_of_getElem? (i := 0) rfl)) (hv _ (List.mem_of_getElem? (i := 1) rfl)))
set_option maxRecDepth 10000 in
theorem vX5_accept_0 {l : Launch} {G : GT} {Q : Int → Sh → Mem → Prop} {d : Nat} {S : Sh} {V : Mem} {mc ms : Nat} {x0 x1 : Int} (h : S.1 x0 = 6 ∧ ((V x0 7) ≠ x1 → CT l G bX5_pass d mc ms [vr x0, vi 0, vi 2] S V (fun z2 S2 V2 mc2 ms2 => (z2 = 0 ∨ z2 = 1) ∧ Q z2 S2 V2)) ∧ (¬ ((V x0 7) ≠ x1) → CT l G bX5_pass d mc ms [vr x0, vi 1, vi 2] S V (fun z4 S4 V4 mc4 ms4 => (z4 = 0 ∨ z4 = 1) ∧ Q z4 S4 V4))) : XJ l G bX5_accept Q d 0 [vr x0, vi x1] [] S V mc ms := by
  refine X_aload_n dX5_accept_0 rfl ?_
  refine X_aload_n dX5_accept_1 rfl ?_
  refine X_getfield (ci := 5) (k := 7) (v := vi (V x0 7)) dX5_accept_2 rfl (by decide) kf_RX5_52 rfl h.1 ?_
  refine X_iload_n dX5_accept_5 rfl ?_
  refine X_icmp_ne dX5_accept_6 (tgt := 13) rfl (fun c1 => ?_) (fun c1 => ?_)
  · refine X_iconst dX5_accept_13 (by decide) ?_
    refine X_iconst dX5_accept_14 (by decide) ?_
    refine X_invV (ci := 5) (as := [vi 0, vi 2]) (st := []) okX5_pass dX5_accept_15 km_RX5_48 rfl rfl (Nat.le_of_ble_eq_true rfl) rfl rfl h.1 (CT.imp (h.2.1 c1) (fun z2 S2 V2 mc2 ms2 hc3 => ?_))
    exact X_ret (z := z2) dX5_accept_18 rfl (fun _ => hc3.1) hc3.2
  · refine X_iconst dX5_accept_9 (by decide) ?_
    refine X_goto dX5_accept_10 (tgt := 14) rfl ?_
    refine X_iconst dX5_accept_14 (by decide) ?_
    refine X_invV (ci := 5) (as := [vi 1, vi 2]) (st := []) okX5_pass dX5_accept_15 km_RX5_48 rfl rfl (Nat.le_of_ble_eq_true rfl) rfl rfl h.1 (CT.imp (h.2.2 c1) (fun z4 S4 V4 mc4 ms4 hc5 => ?_))
    exact X_ret (z := z4) dX5_accept_18 rfl (fun _ => hc5.1) hc5.2
theorem qX5_accept {l : Launch} {G : GT} {Q : Int → Sh → Mem → Prop} {d : Nat} {S : Sh} {V : Mem} {mc ms : Nat} {x0 x1 : Int} (h : 0 ≤ x0 → inI x1 → XJ l G bX5_accept Q d 0 [vr x0, vi x1] [] S V mc ms) : Ct l G bX5_accept Q d mc ms [vr x0, vi x1] S V := Ct.of okX5_accept.1 trivial (Nat.le_of_ble_eq_true rfl) (fun hv => h (hv _ (List.mem_of_getElem? (i := 0) rfl)) (hv _ (List.mem_of_getElem? (i := 1) rfl)))
set_option maxRecDepth 10000 in
theorem vX5_acceptNew_0 {l : Launch} {G : GT} {Q : Int → Sh → Mem → Prop} {d : Nat} {S : Sh} {V : Mem} {mc ms : Nat} {x0 x1 x2 : Int} (h : S.1 x0 = 6 ∧ ((V x0 7) = 3 → (x1 ≠ 0 → (x1 = 0 → CT l G bX5_pass d mc ms [vr x0, vi 0, vi 5] S (up V x0 9 (V x0 8)) (fun z4 S4 V4 mc4 ms4 => (z4 = 0 ∨ z4 = 1) ∧ Q z4 S4 V4)) ∧ (¬ (x1 = 0) → CT l G bX5_pass d mc ms [vr x0, vi 0, vi 3] S (up V x0 9 (V x0 8)) (fun z6 S6 V6 mc6 ms6 => (z6 = 0 ∨ z6 = 1) ∧ Q z6 S6 V6))) ∧ (¬ (x1 ≠ 0) → (x2 = 0 → (x1 = 0 → CT l G bX5_pass d mc ms [vr x0, vi 0, vi 5] S (up V x0 9 (V x0 8)) (fun z10 S10 V10 mc10 ms10 => (z10 = 0 ∨ z10 = 1) ∧ Q z10 S10 V10)) ∧ (¬ (x1 = 0) → CT l G bX5_pass d mc ms [vr x0, vi 0, vi 3] S (up V x0 9 (V x0 8)) (fun z12 S12 V12 mc12 ms12 => (z12 = 0 ∨ z12 = 1) ∧ Q z12 S12 V12))) ∧ (¬ (x2 = 0) → (x1 = 0 → CT l G bX5_pass d mc ms [vr x0, vi 1, vi 5] S (up V x0 9 (V x0 8)) (fun z15 S15 V15 mc15 ms15 => (z15 = 0 ∨ z15 = 1) ∧ Q z15 S15 V15)) ∧ (¬ (x1 = 0) → CT l G bX5_pass d mc ms [vr x0, vi 1, vi 3] S (up V x0 9 (V x0 8)) (fun z17 S17 V17 mc17 ms17 => (z17 = 0 ∨ z17 = 1) ∧ Q z17 S17 V17))))) ∧ (¬ ((V x0 7) = 3) → CT l G bX5_pass d mc ms [vr x0, vi 0, vi 2] S V (fun z19 S19 V19 mc19 ms19 => (z19 = 0 ∨ z19 = 1) ∧ Q z19 S19 V19))) : XJ l G bX5_acceptNew Q d 0 [vr x0, vi x1, vi x2] [] S V mc ms := by
  refine X_aload_n dX5_acceptNew_0 rfl ?_
  refine X_getfield (ci := 5) (k := 7) (v := vi (V x0 7)) dX5_acceptNew_1 rfl (by decide) kf_RX5_52 rfl h.1 ?_
  refine X_iconst dX5_acceptNew_4 (by decide) ?_
  refine X_icmp_eq dX5_acceptNew_5 (tgt := 15) rfl (fun c1 => ?_) (fun c1 => ?_)
  · refine X_aload_n dX5_acceptNew_15 rfl ?_
    refine X_aload_n dX5_acceptNew_16 rfl ?_
    refine X_getfield (ci := 5) (k := 8) (v := vl (V x0 8)) dX5_acceptNew_17 rfl (by decide) kf_RX5_86 rfl h.1 ?_
    refine X_putfield (ci := 5) (k := 9) (z := (V x0 8)) dX5_acceptNew_20 rfl (by decide) kf_RX5_100 (Or.inr (Or.inl rfl)) (Or.inl rfl) rfl (fun hv => hv) h.1 ?_
    refine X_aload_n dX5_acceptNew_23 rfl ?_
    refine X_iload_n dX5_acceptNew_24 rfl ?_
    refine X_if_ne dX5_acceptNew_25 (tgt := 36) rfl (fun c2 => ?_) (fun c2 => ?_)
    · refine X_iconst dX5_acceptNew_36 (by decide) ?_
      refine X_iload_n dX5_acceptNew_37 rfl ?_
      refine X_if_eq dX5_acceptNew_38 (tgt := 45) rfl (fun c3 => ?_) (fun c3 => ?_)
      · refine X_iconst dX5_acceptNew_45 (by decide) ?_
        refine X_invV (ci := 5) (as := [vi 0, vi 5]) (st := []) okX5_pass dX5_acceptNew_46 km_RX5_48 rfl rfl (Nat.le_of_ble_eq_true rfl) rfl rfl h.1 (CT.imp (((h.2.1 c1).1 c2).1 c3) (fun z4 S4 V4 mc4 ms4 hc5 => ?_))
        exact X_ret (z := z4) dX5_acceptNew_49 rfl (fun _ => hc5.1) hc5.2
      · refine X_iconst dX5_acceptNew_41 (by decide) ?_
        refine X_goto dX5_acceptNew_42 (tgt := 46) rfl ?_
        refine X_invV (ci := 5) (as := [vi 0, vi 3]) (st := []) okX5_pass dX5_acceptNew_46 km_RX5_48 rfl rfl (Nat.le_of_ble_eq_true rfl) rfl rfl h.1 (CT.imp (((h.2.1 c1).1 c2).2 c3) (fun z6 S6 V6 mc6 ms6 hc7 => ?_))
        exact X_ret (z := z6) dX5_acceptNew_49 rfl (fun _ => hc7.1) hc7.2
    · refine X_iload_n dX5_acceptNew_28 rfl ?_
      refine X_if_eq dX5_acceptNew_29 (tgt := 36) rfl (fun c8 => ?_) (fun c8 => ?_)
      · refine X_iconst dX5_acceptNew_36 (by decide) ?_
        refine X_iload_n dX5_acceptNew_37 rfl ?_
        refine X_if_eq dX5_acceptNew_38 (tgt := 45) rfl (fun c9 => ?_) (fun c9 => ?_)
        · refine X_iconst dX5_acceptNew_45 (by decide) ?_
          refine X_invV (ci := 5) (as := [vi 0, vi 5]) (st := []) okX5_pass dX5_acceptNew_46 km_RX5_48 rfl rfl (Nat.le_of_ble_eq_true rfl) rfl rfl h.1 (CT.imp ((((h.2.1 c1).2 c2).1 c8).1 c9) (fun z10 S10 V10 mc10 ms10 hc11 => ?_))
          exact X_ret (z := z10) dX5_acceptNew_49 rfl (fun _ => hc11.1) hc11.2
        · refine X_iconst dX5_acceptNew_41 (by decide) ?_
          refine X_goto dX5_acceptNew_42 (tgt := 46) rfl ?_
          refine X_invV (ci := 5) (as := [vi 0, vi 3]) (st := []) okX5_pass dX5_acceptNew_46 km_RX5_48 rfl rfl (Nat.le_of_ble_eq_true rfl) rfl rfl h.1 (CT.imp ((((h.2.1 c1).2 c2).1 c8).2 c9) (fun z12 S12 V12 mc12 ms12 hc13 => ?_))
          exact X_ret (z := z12) dX5_acceptNew_49 rfl (fun _ => hc13.1) hc13.2
      · refine X_iconst dX5_acceptNew_32 (by decide) ?_
        refine X_goto dX5_acceptNew_33 (tgt := 37) rfl ?_
        refine X_iload_n dX5_acceptNew_37 rfl ?_
        refine X_if_eq dX5_acceptNew_38 (tgt := 45) rfl (fun c14 => ?_) (fun c14 => ?_)
        · refine X_iconst dX5_acceptNew_45 (by decide) ?_
          refine X_invV (ci := 5) (as := [vi 1, vi 5]) (st := []) okX5_pass dX5_acceptNew_46 km_RX5_48 rfl rfl (Nat.le_of_ble_eq_true rfl) rfl rfl h.1 (CT.imp ((((h.2.1 c1).2 c2).2 c8).1 c14) (fun z15 S15 V15 mc15 ms15 hc16 => ?_))
          exact X_ret (z := z15) dX5_acceptNew_49 rfl (fun _ => hc16.1) hc16.2
        · refine X_iconst dX5_acceptNew_41 (by decide) ?_
          refine X_goto dX5_acceptNew_42 (tgt := 46) rfl ?_
          refine X_invV (ci := 5) (as := [vi 1, vi 3]) (st := []) okX5_pass dX5_acceptNew_46 km_RX5_48 rfl rfl (Nat.le_of_ble_eq_true rfl) rfl rfl h.1 (CT.imp ((((h.2.1 c1).2 c2).2 c8).2 c14) (fun z17 S17 V17 mc17 ms17 hc18 => ?_))
          exact X_ret (z := z17) dX5_acceptNew_49 rfl (fun _ => hc18.1) hc18.2
  · refine X_aload_n dX5_acceptNew_8 rfl ?_
    refine X_iconst dX5_acceptNew_9 (by decide) ?_
    refine X_iconst dX5_acceptNew_10 (by decide) ?_
    refine X_invV (ci := 5) (as := [vi 0, vi 2]) (st := []) okX5_pass dX5_acceptNew_11 km_RX5_48 rfl rfl (Nat.le_of_ble_eq_true rfl) rfl rfl h.1 (CT.imp (h.2.2 c1) (fun z19 S19 V19 mc19 ms19 hc20 => ?_))
    exact X_ret (z := z19) dX5_acceptNew_14 rfl (fun _ => hc20.1) hc20.2
theorem qX5_acceptNew {l : Launch} {G : GT} {Q : Int → Sh → Mem → Prop} {d : Nat} {S : Sh} {V : Mem} {mc ms : Nat} {x0 x1 x2 : Int} (h : 0 ≤ x0 → inI x1 → inI x2 → XJ l G bX5_acceptNew Q d 0 [vr x0, vi x1, vi x2] [] S V mc ms) : Ct l G bX5_acceptNew Q d mc ms [vr x0, vi x1, vi x2] S V := Ct.of okX5_acceptNew.1 trivial (Nat.le_of_ble_eq_true rfl) (fun hv => h (hv _ (List.mem_of_getElem? (i := 0) rfl)) (hv _ (List.mem_of_getElem? (i := 1) rfl)) (hv _ (List.mem_of_getElem? (i := 2) rfl)))
set_option maxRecDepth 10000 in
theorem vX5_acceptMember_0 {l : Launch} {G : GT} {Q : Int → Sh → Mem → Prop} {d : Nat} {S : Sh} {V : Mem} {mc ms : Nat} {x0 x1 : Int} (h : S.1 x0 = 6 ∧ CT l G bX5_pass d mc ms [vr x0, vi x1, vi 5] S V (fun z1 S1 V1 mc1 ms1 => (z1 = 0 → Q 0 S1 V1) ∧ (¬ (z1 = 0) → S1.1 x0 = 6 ∧ S1.1 (V1 x0 4) = 4 ∧ CT l G bX3_knows d mc1 ms1 [vr (V1 x0 4), vl (V1 x0 8)] S1 V1 (fun z4 S4 V4 mc4 ms4 => S4.1 x0 = 6 ∧ CT l G bX5_acceptNew d mc4 ms4 [vr x0, vi z4, vi 1] S4 V4 (fun z6 S6 V6 mc6 ms6 => (z6 = 0 → Q 0 S6 V6) ∧ (¬ (z6 = 0) → Q 1 S6 V6)))))) : XJ l G bX5_acceptMember Q d 0 [vr x0, vi x1] [] S V mc ms := by
  refine X_aload_n dX5_acceptMember_0 rfl ?_
  refine X_iload_n dX5_acceptMember_1 rfl ?_
  refine X_iconst dX5_acceptMember_2 (by decide) ?_
  refine X_invV (ci := 5) (as := [vi x1, vi 5]) (st := []) okX5_pass dX5_acceptMember_3 km_RX5_48 rfl rfl (Nat.le_of_ble_eq_true rfl) rfl rfl h.1 (CT.imp h.2 (fun z1 S1 V1 mc1 ms1 hc2 => ?_))
  refine X_if_eq dX5_acceptMember_6 (tgt := 32) rfl (fun c3 => ?_) (fun c3 => ?_)
  · refine X_iconst dX5_acceptMember_32 (by decide) ?_
    exact X_ret (z := 0) dX5_acceptMember_33 rfl (fun _ => Or.inl rfl) (hc2.1 c3)
  · refine X_aload_n dX5_acceptMember_9 rfl ?_
    refine X_aload_n dX5_acceptMember_10 rfl ?_
    refine X_getfield (ci := 5) (k := 4) (v := vr (V1 x0 4)) dX5_acceptMember_11 rfl (by decide) kf_RX5_106 rfl (hc2.2 c3).1 ?_
    refine X_aload_n dX5_acceptMember_14 rfl ?_
    refine X_getfield (ci := 5) (k := 8) (v := vl (V1 x0 8)) dX5_acceptMember_15 rfl (by decide) kf_RX5_86 rfl (hc2.2 c3).1 ?_
    refine X_invV (ci := 3) (as := [vl (V1 x0 8)]) (st := [vr x0]) okX3_knows dX5_acceptMember_18 km_RX5_124 rfl rfl (Nat.le_of_ble_eq_true rfl) rfl rfl (hc2.2 c3).2.1 (CT.imp (hc2.2 c3).2.2 (fun z4 S4 V4 mc4 ms4 hc5 => ?_))
    refine X_iconst dX5_acceptMember_21 (by decide) ?_
    refine X_invV (ci := 5) (as := [vi z4, vi 1]) (st := []) okX5_acceptNew dX5_acceptMember_22 km_RX5_94 rfl rfl (Nat.le_of_ble_eq_true rfl) rfl rfl hc5.1 (CT.imp hc5.2 (fun z6 S6 V6 mc6 ms6 hc7 => ?_))
    refine X_if_eq dX5_acceptMember_25 (tgt := 32) rfl (fun c8 => ?_) (fun c8 => ?_)
    · refine X_iconst dX5_acceptMember_32 (by decide) ?_
      exact X_ret (z := 0) dX5_acceptMember_33 rfl (fun _ => Or.inl rfl) (hc7.1 c8)
    · refine X_iconst dX5_acceptMember_28 (by decide) ?_
      refine X_goto dX5_acceptMember_29 (tgt := 33) rfl ?_
      exact X_ret (z := 1) dX5_acceptMember_33 rfl (fun _ => Or.inr rfl) (hc7.2 c8)
theorem qX5_acceptMember {l : Launch} {G : GT} {Q : Int → Sh → Mem → Prop} {d : Nat} {S : Sh} {V : Mem} {mc ms : Nat} {x0 x1 : Int} (h : 0 ≤ x0 → inI x1 → XJ l G bX5_acceptMember Q d 0 [vr x0, vi x1] [] S V mc ms) : Ct l G bX5_acceptMember Q d mc ms [vr x0, vi x1] S V := Ct.of okX5_acceptMember.1 trivial (Nat.le_of_ble_eq_true rfl) (fun hv => h (hv _ (List.mem_of_getElem? (i := 0) rfl)) (hv _ (List.mem_of_getElem? (i := 1) rfl)))
set_option maxRecDepth 10000 in
theorem vX5_pass_0 {l : Launch} {G : GT} {Q : Int → Sh → Mem → Prop} {d : Nat} {S : Sh} {V : Mem} {mc ms : Nat} {x0 x1 x2 : Int} (h : (x1 ≠ 0 → S.1 x0 = 6 ∧ -2147483648 ≤ (V x0 6) + 1 ∧ (V x0 6) + 1 ≤ 2147483647 ∧ S.1 (V x0 0) = 10 ∧ -2147483648 ≤ (V (V x0 0) 3) - 1 ∧ (V (V x0 0) 3) - 1 ≤ 2147483647 ∧ 1 ≤ d ∧ S.1 (V (V x0 0) 0) = 20 ∧ 0 ≤ (imin ((V x0 6) + 1) ((V (V x0 0) 3) - 1)) ∧ (imin ((V x0 6) + 1) ((V (V x0 0) 3) - 1)) < S.2.1 (V (V x0 0) 0) ∧ S.1 (V (V x0 0) 2) = 22 ∧ (imin ((V x0 6) + 1) ((V (V x0 0) 3) - 1)) < S.2.1 (V (V x0 0) 2) ∧ Q 1 S (up (up (up V x0 6 (imin ((V x0 6) + 1) ((V (V x0 0) 3) - 1))) x0 7 (V (V (V x0 0) 0) (imin ((V x0 6) + 1) ((V (V x0 0) 3) - 1)))) x0 8 (V (V (V x0 0) 2) (imin ((V x0 6) + 1) ((V (V x0 0) 3) - 1))))) ∧ (¬ (x1 ≠ 0) → S.1 x0 = 6 ∧ ((V x0 7) ≠ 0 → S.1 (V x0 0) = 10 ∧ S.1 (V (V x0 0) 1) = 20 ∧ 0 ≤ (V x0 6) ∧ (V x0 6) < S.2.1 (V (V x0 0) 1) ∧ Q 0 S (up (up V x0 10 x2) x0 11 (V (V (V x0 0) 1) (V x0 6)))) ∧ (¬ ((V x0 7) ≠ 0) → S.1 (V x0 0) = 10 ∧ S.1 (V (V x0 0) 1) = 20 ∧ 0 ≤ (V x0 6) ∧ (V x0 6) < S.2.1 (V (V x0 0) 1) ∧ Q 0 S (up (up V x0 10 1) x0 11 (V (V (V x0 0) 1) (V x0 6)))))) : XJ l G bX5_pass Q d 0 [vr x0, vi x1, vi x2] [] S V mc ms := by
  refine X_iload_n dX5_pass_0 rfl ?_
  refine X_if_ne dX5_pass_1 (tgt := 38) rfl (fun c1 => ?_) (fun c1 => ?_)
  · refine X_aload_n dX5_pass_38 rfl ?_
    refine X_aload_n dX5_pass_39 rfl ?_
    refine X_getfield (ci := 5) (k := 6) (v := vi (V x0 6)) dX5_pass_40 rfl (by decide) kf_RX5_45 rfl (h.1 c1).1 ?_
    refine X_iconst dX5_pass_43 (by decide) ?_
    refine X_iaddN dX5_pass_44 (h.1 c1).2.1 (h.1 c1).2.2.1 ?_
    refine X_aload_n dX5_pass_45 rfl ?_
    refine X_getfield (ci := 5) (k := 0) (v := vr (V x0 0)) dX5_pass_46 rfl (by decide) kf_RX5_24 rfl (h.1 c1).1 ?_
    refine X_getfield (ci := 9) (k := 3) (v := vi (V (V x0 0) 3)) dX5_pass_49 rfl (by decide) kf_RX5_264 rfl (h.1 c1).2.2.2.1 ?_
    refine X_iconst dX5_pass_52 (by decide) ?_
    refine X_isubN dX5_pass_53 (h.1 c1).2.2.2.2.1 (h.1 c1).2.2.2.2.2.1 ?_
    refine X_mmin dX5_pass_54 km_RX5_267 (Nat.le_of_ble_eq_true rfl) (h.1 c1).2.2.2.2.2.2.1 ?_
    refine X_putfield (ci := 5) (k := 6) (z := (imin ((V x0 6) + 1) ((V (V x0 0) 3) - 1))) dX5_pass_57 rfl (by decide) kf_RX5_45 (Or.inl rfl) (Or.inl rfl) rfl (fun hv => hv) (h.1 c1).1 ?_
    refine X_aload_n dX5_pass_60 rfl ?_
    refine X_aload_n dX5_pass_61 rfl ?_
    refine X_getfield (ci := 5) (k := 0) (v := vr (V x0 0)) dX5_pass_62 rfl (by decide) kf_RX5_24 (congrArg vr (up_ne (Or.inr (by decide)))) (h.1 c1).1 ?_
    refine X_getfield (ci := 9) (k := 0) (v := vr (V (V x0 0) 0)) dX5_pass_65 rfl (by decide) kf_RX5_273 (congrArg vr (up_ne (Or.inl (tag_ne (h.1 c1).2.2.2.1 (h.1 c1).1 (by decide))))) (h.1 c1).2.2.2.1 ?_
    refine X_aload_n dX5_pass_68 rfl ?_
    refine X_getfield (ci := 5) (k := 6) (v := vi (imin ((V x0 6) + 1) ((V (V x0 0) 3) - 1))) dX5_pass_69 rfl (by decide) kf_RX5_45 (congrArg vi up_eq) (h.1 c1).1 ?_
    refine X_iaload dX5_pass_72 (h.1 c1).2.2.2.2.2.2.2.1 (h.1 c1).2.2.2.2.2.2.2.2.1 (h.1 c1).2.2.2.2.2.2.2.2.2.1 ?_
    refine X_top (v := vi (V (V (V x0 0) 0) (imin ((V x0 6) + 1) ((V (V x0 0) 3) - 1)))) (congrArg vi (up_ne (Or.inl (tag_ne (h.1 c1).2.2.2.2.2.2.2.1 (h.1 c1).1 (by decide))))) ?_
    refine X_putfield (ci := 5) (k := 7) (z := (V (V (V x0 0) 0) (imin ((V x0 6) + 1) ((V (V x0 0) 3) - 1)))) dX5_pass_73 rfl (by decide) kf_RX5_52 (Or.inl rfl) (Or.inl rfl) rfl (fun hv => hv) (h.1 c1).1 ?_
    refine X_aload_n dX5_pass_76 rfl ?_
    refine X_aload_n dX5_pass_77 rfl ?_
    refine X_getfield (ci := 5) (k := 0) (v := vr (V x0 0)) dX5_pass_78 rfl (by decide) kf_RX5_24 (congrArg vr ((up_ne (Or.inr (by decide))).trans (up_ne (Or.inr (by decide))))) (h.1 c1).1 ?_
    refine X_getfield (ci := 9) (k := 2) (v := vr (V (V x0 0) 2)) dX5_pass_81 rfl (by decide) kf_RX5_276 (congrArg vr ((up_ne (Or.inl (tag_ne (h.1 c1).2.2.2.1 (h.1 c1).1 (by decide)))).trans (up_ne (Or.inl (tag_ne (h.1 c1).2.2.2.1 (h.1 c1).1 (by decide)))))) (h.1 c1).2.2.2.1 ?_
    refine X_aload_n dX5_pass_84 rfl ?_
    refine X_getfield (ci := 5) (k := 6) (v := vi (imin ((V x0 6) + 1) ((V (V x0 0) 3) - 1))) dX5_pass_85 rfl (by decide) kf_RX5_45 (congrArg vi ((up_ne (Or.inr (by decide))).trans up_eq)) (h.1 c1).1 ?_
    refine X_laload dX5_pass_88 (h.1 c1).2.2.2.2.2.2.2.2.2.2.1 (h.1 c1).2.2.2.2.2.2.2.2.1 (h.1 c1).2.2.2.2.2.2.2.2.2.2.2.1 ?_
    refine X_top (v := vl (V (V (V x0 0) 2) (imin ((V x0 6) + 1) ((V (V x0 0) 3) - 1)))) (congrArg vl ((up_ne (Or.inl (tag_ne (h.1 c1).2.2.2.2.2.2.2.2.2.2.1 (h.1 c1).1 (by decide)))).trans (up_ne (Or.inl (tag_ne (h.1 c1).2.2.2.2.2.2.2.2.2.2.1 (h.1 c1).1 (by decide)))))) ?_
    refine X_putfield (ci := 5) (k := 8) (z := (V (V (V x0 0) 2) (imin ((V x0 6) + 1) ((V (V x0 0) 3) - 1)))) dX5_pass_89 rfl (by decide) kf_RX5_86 (Or.inr (Or.inl rfl)) (Or.inl rfl) rfl (fun hv => hv) (h.1 c1).1 ?_
    refine X_iconst dX5_pass_92 (by decide) ?_
    exact X_ret (z := 1) dX5_pass_93 rfl (fun _ => Or.inr rfl) (h.1 c1).2.2.2.2.2.2.2.2.2.2.2.2
  · refine X_aload_n dX5_pass_4 rfl ?_
    refine X_aload_n dX5_pass_5 rfl ?_
    refine X_getfield (ci := 5) (k := 7) (v := vi (V x0 7)) dX5_pass_6 rfl (by decide) kf_RX5_52 rfl (h.2 c1).1 ?_
    refine X_if_ne dX5_pass_9 (tgt := 16) rfl (fun c2 => ?_) (fun c2 => ?_)
    · refine X_iload_n dX5_pass_16 rfl ?_
      refine X_putfield (ci := 5) (k := 10) (z := x2) dX5_pass_17 rfl (by decide) kf_RX5_28 (Or.inl rfl) (Or.inl rfl) rfl (fun hv => hv) (h.2 c1).1 ?_
      refine X_aload_n dX5_pass_20 rfl ?_
      refine X_aload_n dX5_pass_21 rfl ?_
      refine X_getfield (ci := 5) (k := 0) (v := vr (V x0 0)) dX5_pass_22 rfl (by decide) kf_RX5_24 (congrArg vr (up_ne (Or.inr (by decide)))) (h.2 c1).1 ?_
      refine X_getfield (ci := 9) (k := 1) (v := vr (V (V x0 0) 1)) dX5_pass_25 rfl (by decide) kf_RX5_79 (congrArg vr (up_ne (Or.inl (tag_ne ((h.2 c1).2.1 c2).1 (h.2 c1).1 (by decide))))) ((h.2 c1).2.1 c2).1 ?_
      refine X_aload_n dX5_pass_28 rfl ?_
      refine X_getfield (ci := 5) (k := 6) (v := vi (V x0 6)) dX5_pass_29 rfl (by decide) kf_RX5_45 (congrArg vi (up_ne (Or.inr (by decide)))) (h.2 c1).1 ?_
      refine X_iaload dX5_pass_32 ((h.2 c1).2.1 c2).2.1 ((h.2 c1).2.1 c2).2.2.1 ((h.2 c1).2.1 c2).2.2.2.1 ?_
      refine X_top (v := vi (V (V (V x0 0) 1) (V x0 6))) (congrArg vi (up_ne (Or.inl (tag_ne ((h.2 c1).2.1 c2).2.1 (h.2 c1).1 (by decide))))) ?_
      refine X_putfield (ci := 5) (k := 11) (z := (V (V (V x0 0) 1) (V x0 6))) dX5_pass_33 rfl (by decide) kf_RX5_32 (Or.inl rfl) (Or.inl rfl) rfl (fun hv => hv) (h.2 c1).1 ?_
      refine X_iconst dX5_pass_36 (by decide) ?_
      exact X_ret (z := 0) dX5_pass_37 rfl (fun _ => Or.inl rfl) ((h.2 c1).2.1 c2).2.2.2.2
    · refine X_iconst dX5_pass_12 (by decide) ?_
      refine X_goto dX5_pass_13 (tgt := 17) rfl ?_
      refine X_putfield (ci := 5) (k := 10) (z := 1) dX5_pass_17 rfl (by decide) kf_RX5_28 (Or.inl rfl) (Or.inl rfl) rfl (fun hv => hv) (h.2 c1).1 ?_
      refine X_aload_n dX5_pass_20 rfl ?_
      refine X_aload_n dX5_pass_21 rfl ?_
      refine X_getfield (ci := 5) (k := 0) (v := vr (V x0 0)) dX5_pass_22 rfl (by decide) kf_RX5_24 (congrArg vr (up_ne (Or.inr (by decide)))) (h.2 c1).1 ?_
      refine X_getfield (ci := 9) (k := 1) (v := vr (V (V x0 0) 1)) dX5_pass_25 rfl (by decide) kf_RX5_79 (congrArg vr (up_ne (Or.inl (tag_ne ((h.2 c1).2.2 c2).1 (h.2 c1).1 (by decide))))) ((h.2 c1).2.2 c2).1 ?_
      refine X_aload_n dX5_pass_28 rfl ?_
      refine X_getfield (ci := 5) (k := 6) (v := vi (V x0 6)) dX5_pass_29 rfl (by decide) kf_RX5_45 (congrArg vi (up_ne (Or.inr (by decide)))) (h.2 c1).1 ?_
      refine X_iaload dX5_pass_32 ((h.2 c1).2.2 c2).2.1 ((h.2 c1).2.2 c2).2.2.1 ((h.2 c1).2.2 c2).2.2.2.1 ?_
      refine X_top (v := vi (V (V (V x0 0) 1) (V x0 6))) (congrArg vi (up_ne (Or.inl (tag_ne ((h.2 c1).2.2 c2).2.1 (h.2 c1).1 (by decide))))) ?_
      refine X_putfield (ci := 5) (k := 11) (z := (V (V (V x0 0) 1) (V x0 6))) dX5_pass_33 rfl (by decide) kf_RX5_32 (Or.inl rfl) (Or.inl rfl) rfl (fun hv => hv) (h.2 c1).1 ?_
      refine X_iconst dX5_pass_36 (by decide) ?_
      exact X_ret (z := 0) dX5_pass_37 rfl (fun _ => Or.inl rfl) ((h.2 c1).2.2 c2).2.2.2.2
theorem qX5_pass {l : Launch} {G : GT} {Q : Int → Sh → Mem → Prop} {d : Nat} {S : Sh} {V : Mem} {mc ms : Nat} {x0 x1 x2 : Int} (h : 0 ≤ x0 → inI x1 → inI x2 → XJ l G bX5_pass Q d 0 [vr x0, vi x1, vi x2] [] S V mc ms) : Ct l G bX5_pass Q d mc ms [vr x0, vi x1, vi x2] S V := Ct.of okX5_pass.1 trivial (Nat.le_of_ble_eq_true rfl) (fun hv => h (hv _ (List.mem_of_getElem? (i := 0) rfl)) (hv _ (List.mem_of_getElem? (i := 1) rfl)) (hv _ (List.mem_of_getElem? (i := 2) rfl)))
