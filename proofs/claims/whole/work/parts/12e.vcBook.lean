set_option maxRecDepth 10000 in
theorem vX11_init_0 {l : Launch} {G : GT} {Q : Int → Sh → Mem → Prop} {d : Nat} {S : Sh} {V : Mem} {mc ms : Nat} {x0 : Int} (h : x0 ≠ 0 ∧ 1 ≤ d ∧ 0 ≤ (3000 : Int) ∧ (3000 : Int) ≤ 60000 ∧ 1 ≤ mc ∧ (3000 : Int).toNat ≤ ms ∧ (∀ (S1 : Sh) (V1 : Mem) (r1 : Int) (mc1 ms1 : Nat), r1 = S.2.2 + 1 → S1 = nw S 21 3000 → V1 = clr V r1 → mc1 = mc - 1 → ms1 = ms - (3000 : Int).toNat → S1.1 x0 = 12 ∧ 1 ≤ mc1 ∧ 5 ≤ ms1 ∧ (∀ (S3 : Sh) (V3 : Mem) (r3 : Int) (mc3 ms3 : Nat), r3 = S1.2.2 + 1 → S3 = nw S1 10 0 → V3 = clr (up V1 x0 0 r1) r3 → mc3 = mc1 - 1 → ms3 = ms1 - 5 → r3 ≠ 0 ∧ CT l G bX9_init d mc3 ms3 [vr r3] S3 V3 (fun z5 S5 V5 mc5 ms5 => S5.1 x0 = 12 ∧ 1 ≤ mc5 ∧ 12 ≤ ms5 ∧ (∀ (S7 : Sh) (V7 : Mem) (r7 : Int) (mc7 ms7 : Nat), r7 = S5.2.2 + 1 → S7 = nw S5 6 0 → V7 = clr (up V5 x0 2 r3) r7 → mc7 = mc5 - 1 → ms7 = ms5 - 12 → S7.1 x0 = 12 ∧ r7 ≠ 0 ∧ CT l G bX5_init d mc7 ms7 [vr r7, vr (V7 x0 2)] S7 V7 (fun z9 S9 V9 mc9 ms9 => S9.1 x0 = 12 ∧ 1 ≤ mc9 ∧ 11 ≤ ms9 ∧ (∀ (S11 : Sh) (V11 : Mem) (r11 : Int) (mc11 ms11 : Nat), r11 = S9.2.2 + 1 → S11 = nw S9 11 0 → V11 = clr (up V9 x0 3 r7) r11 → mc11 = mc9 - 1 → ms11 = ms9 - 11 → r11 ≠ 0 ∧ CT l G bX10_init d mc11 ms11 [vr r11] S11 V11 (fun z13 S13 V13 mc13 ms13 => S13.1 x0 = 12 ∧ 0 ≤ (10 : Int) ∧ (10 : Int) ≤ 60000 ∧ 1 ≤ mc13 ∧ (10 : Int).toNat ≤ ms13 ∧ (∀ (S15 : Sh) (V15 : Mem) (r15 : Int) (mc15 ms15 : Nat), r15 = S13.2.2 + 1 → S15 = nw S13 30 10 → V15 = clr (up V13 x0 4 r11) r15 → mc15 = mc13 - 1 → ms15 = ms13 - (10 : Int).toNat → S15.1 x0 = 12 ∧ 0 ≤ (40 : Int) ∧ (40 : Int) ≤ 60000 ∧ 1 ≤ mc15 ∧ (40 : Int).toNat ≤ ms15 ∧ (∀ (S17 : Sh) (V17 : Mem) (r17 : Int) (mc17 ms17 : Nat), r17 = S15.2.2 + 1 → S17 = nw S15 36 40 → V17 = clr (up V15 x0 5 r15) r17 → mc17 = mc15 - 1 → ms17 = ms15 - (40 : Int).toNat → S17.1 x0 = 12 ∧ 0 ≤ (10 : Int) ∧ (10 : Int) ≤ 60000 ∧ 1 ≤ mc17 ∧ (10 : Int).toNat ≤ ms17 ∧ (∀ (S19 : Sh) (V19 : Mem) (r19 : Int) (mc19 ms19 : Nat), r19 = S17.2.2 + 1 → S19 = nw S17 36 10 → V19 = clr (up V17 x0 9 r17) r19 → mc19 = mc17 - 1 → ms19 = ms17 - (10 : Int).toNat → S19.1 x0 = 12 ∧ 0 ≤ (20 : Int) ∧ (20 : Int) ≤ 60000 ∧ 1 ≤ mc19 ∧ (20 : Int).toNat ≤ ms19 ∧ (∀ (S21 : Sh) (V21 : Mem) (r21 : Int) (mc21 ms21 : Nat), r21 = S19.2.2 + 1 → S21 = nw S19 34 20 → V21 = clr (up V19 x0 11 r19) r21 → mc21 = mc19 - 1 → ms21 = ms19 - (20 : Int).toNat → S21.1 x0 = 12 ∧ 1 ≤ mc21 ∧ 5 ≤ ms21 ∧ (∀ (S23 : Sh) (V23 : Mem) (r23 : Int) (mc23 ms23 : Nat), r23 = S21.2.2 + 1 → S23 = nw S21 5 0 → V23 = clr (up V21 x0 13 r21) r23 → mc23 = mc21 - 1 → ms23 = ms21 - 5 → r23 ≠ 0 ∧ CT l G bX4_init d mc23 ms23 [vr r23] S23 V23 (fun z25 S25 V25 mc25 ms25 => S25.1 x0 = 12 ∧ Q 0 S25 (up V25 x0 15 r23))))))))))))))) : XJ l G bX11_init Q d 0 [vr x0] [] S V mc ms := by
  refine X_aload_n dX11_init_0 rfl ?_
  refine X_objInit dX11_init_1 ⟨km_RX11_3, k_obj⟩ h.1 (Nat.le_of_ble_eq_true rfl) h.2.1 ?_
  refine X_aload_n dX11_init_4 rfl ?_
  refine X_sipush dX11_init_5 (by decide) (by decide) ?_
  refine X_newarr (t := 21) dX11_init_8 k_arr.2.1 rfl (by decide) (by decide) h.2.2.1 h.2.2.2.1 h.2.2.2.2.1 h.2.2.2.2.2.1 ?_
  generalize hShn2 : nw S 21 3000 = S1
  generalize hVhn2 : clr V (S.2.2 + 1) = V1
  generalize hrhn2 : S.2.2 + 1 = r1 at hVhn2 ⊢
  generalize hmhn2 : mc - 1 = mc1
  generalize hkhn2 : ms - (3000 : Int).toNat = ms1
  have hn2 := h.2.2.2.2.2.2 S1 V1 r1 mc1 ms1 hrhn2.symm hShn2.symm hVhn2.symm hmhn2.symm hkhn2.symm
  refine X_putfield (ci := 11) (k := 0) (z := r1) dX11_init_10 rfl (by decide) kf_RX11_9 (Or.inr (Or.inr (Or.inr (Or.inr ⟨_, rfl⟩)))) (Or.inr ⟨rfl, rfl, rfl⟩) rfl (fun hv => hv) hn2.1 ?_
  refine X_aload_n dX11_init_13 rfl ?_
  refine X_newT (t := 10) (ci := 9) rfl dX11_init_14 rfl ⟨kc_RX11_13, kn_9⟩ kd_9 hn2.2.1 hn2.2.2.1 ?_
  generalize hShn4 : nw S1 10 0 = S3
  generalize hVhn4 : clr (up V1 x0 0 r1) (S1.2.2 + 1) = V3
  generalize hrhn4 : S1.2.2 + 1 = r3 at hVhn4 ⊢
  generalize hmhn4 : mc1 - 1 = mc3
  generalize hkhn4 : ms1 - 5 = ms3
  have hn4 := hn2.2.2.2 S3 V3 r3 mc3 ms3 hrhn4.symm hShn4.symm hVhn4.symm hmhn4.symm hkhn4.symm
  refine X_dup dX11_init_17 (rv_cat _) ?_
  refine X_invI (as := []) (st := [vr r3, vr x0]) okX9_init dX11_init_18 km_RX11_15 rfl rfl (Nat.le_of_ble_eq_true rfl) hn4.1 (CT.imp hn4.2 (fun z5 S5 V5 mc5 ms5 hc6 => ?_))
  refine X_putfield (ci := 11) (k := 2) (z := r3) dX11_init_21 rfl (by decide) kf_RX11_16 (Or.inr (Or.inr (Or.inr (Or.inl ⟨_, rfl⟩)))) (Or.inr ⟨rfl, rfl, rfl⟩) rfl (fun hv => hv) hc6.1 ?_
  refine X_aload_n dX11_init_24 rfl ?_
  refine X_newT (t := 6) (ci := 5) rfl dX11_init_25 rfl ⟨kc_RX11_20, kn_5⟩ kd_5 hc6.2.1 hc6.2.2.1 ?_
  generalize hShn8 : nw S5 6 0 = S7
  generalize hVhn8 : clr (up V5 x0 2 r3) (S5.2.2 + 1) = V7
  generalize hrhn8 : S5.2.2 + 1 = r7 at hVhn8 ⊢
  generalize hmhn8 : mc5 - 1 = mc7
  generalize hkhn8 : ms5 - 12 = ms7
  have hn8 := hc6.2.2.2 S7 V7 r7 mc7 ms7 hrhn8.symm hShn8.symm hVhn8.symm hmhn8.symm hkhn8.symm
  refine X_dup dX11_init_28 (rv_cat _) ?_
  refine X_aload_n dX11_init_29 rfl ?_
  refine X_getfield (ci := 11) (k := 2) (v := vr (V7 x0 2)) dX11_init_30 rfl (by decide) kf_RX11_16 rfl hn8.1 ?_
  refine X_invI (as := [vr (V7 x0 2)]) (st := [vr r7, vr x0]) okX5_init dX11_init_33 km_RX11_22 rfl rfl (Nat.le_of_ble_eq_true rfl) hn8.2.1 (CT.imp hn8.2.2 (fun z9 S9 V9 mc9 ms9 hc10 => ?_))
  refine X_putfield (ci := 11) (k := 3) (z := r7) dX11_init_36 rfl (by decide) kf_RX11_25 (Or.inr (Or.inr (Or.inr (Or.inl ⟨_, rfl⟩)))) (Or.inr ⟨rfl, rfl, rfl⟩) rfl (fun hv => hv) hc10.1 ?_
  refine X_aload_n dX11_init_39 rfl ?_
  refine X_newT (t := 11) (ci := 10) rfl dX11_init_40 rfl ⟨kc_RX11_29, kn_10⟩ kd_10 hc10.2.1 hc10.2.2.1 ?_
  generalize hShn12 : nw S9 11 0 = S11
  generalize hVhn12 : clr (up V9 x0 3 r7) (S9.2.2 + 1) = V11
  generalize hrhn12 : S9.2.2 + 1 = r11 at hVhn12 ⊢
  generalize hmhn12 : mc9 - 1 = mc11
  generalize hkhn12 : ms9 - 11 = ms11
  have hn12 := hc10.2.2.2 S11 V11 r11 mc11 ms11 hrhn12.symm hShn12.symm hVhn12.symm hmhn12.symm hkhn12.symm
  refine X_dup dX11_init_43 (rv_cat _) ?_
  refine X_invIN (as := []) (st := [vr r11, vr x0]) okX10_init dX11_init_44 (host := RX11) (fun U hU => hU.2.2.2.2.2.1.1) rfl rfl (Nat.le_of_ble_eq_true rfl) hn12.1 (CT.imp hn12.2 (fun z13 S13 V13 mc13 ms13 hc14 => ?_))
  refine X_putfield (ci := 11) (k := 4) (z := r11) dX11_init_47 rfl (by decide) kf_RX11_32 (Or.inr (Or.inr (Or.inr (Or.inl ⟨_, rfl⟩)))) (Or.inr ⟨rfl, rfl, rfl⟩) rfl (fun hv => hv) hc14.1 ?_
  refine X_aload_n dX11_init_50 rfl ?_
  refine X_bipush dX11_init_51 (by decide) (by decide) ?_
  refine X_anewarr (t := 30) dX11_init_53 kc_RX11_36 (by decide) rfl (by decide) hc14.2.1 hc14.2.2.1 hc14.2.2.2.1 hc14.2.2.2.2.1 ?_
  generalize hShn16 : nw S13 30 10 = S15
  generalize hVhn16 : clr (up V13 x0 4 r11) (S13.2.2 + 1) = V15
  generalize hrhn16 : S13.2.2 + 1 = r15 at hVhn16 ⊢
  generalize hmhn16 : mc13 - 1 = mc15
  generalize hkhn16 : ms13 - (10 : Int).toNat = ms15
  have hn16 := hc14.2.2.2.2.2 S15 V15 r15 mc15 ms15 hrhn16.symm hShn16.symm hVhn16.symm hmhn16.symm hkhn16.symm
  refine X_putfield (ci := 11) (k := 5) (z := r15) dX11_init_56 rfl (by decide) kf_RX11_38 (Or.inr (Or.inr (Or.inr (Or.inr ⟨_, rfl⟩)))) (Or.inr ⟨rfl, rfl, rfl⟩) rfl (fun hv => hv) hn16.1 ?_
  refine X_aload_n dX11_init_59 rfl ?_
  refine X_bipush dX11_init_60 (by decide) (by decide) ?_
  refine X_anewarr (t := 36) dX11_init_62 kc_RX11_42 (by decide) rfl (by decide) hn16.2.1 hn16.2.2.1 hn16.2.2.2.1 hn16.2.2.2.2.1 ?_
  generalize hShn18 : nw S15 36 40 = S17
  generalize hVhn18 : clr (up V15 x0 5 r15) (S15.2.2 + 1) = V17
  generalize hrhn18 : S15.2.2 + 1 = r17 at hVhn18 ⊢
  generalize hmhn18 : mc15 - 1 = mc17
  generalize hkhn18 : ms15 - (40 : Int).toNat = ms17
  have hn18 := hn16.2.2.2.2.2 S17 V17 r17 mc17 ms17 hrhn18.symm hShn18.symm hVhn18.symm hmhn18.symm hkhn18.symm
  refine X_putfield (ci := 11) (k := 9) (z := r17) dX11_init_65 rfl (by decide) kf_RX11_44 (Or.inr (Or.inr (Or.inr (Or.inr ⟨_, rfl⟩)))) (Or.inr ⟨rfl, rfl, rfl⟩) rfl (fun hv => hv) hn18.1 ?_
  refine X_aload_n dX11_init_68 rfl ?_
  refine X_bipush dX11_init_69 (by decide) (by decide) ?_
  refine X_anewarr (t := 36) dX11_init_71 kc_RX11_42 (by decide) rfl (by decide) hn18.2.1 hn18.2.2.1 hn18.2.2.2.1 hn18.2.2.2.2.1 ?_
  generalize hShn20 : nw S17 36 10 = S19
  generalize hVhn20 : clr (up V17 x0 9 r17) (S17.2.2 + 1) = V19
  generalize hrhn20 : S17.2.2 + 1 = r19 at hVhn20 ⊢
  generalize hmhn20 : mc17 - 1 = mc19
  generalize hkhn20 : ms17 - (10 : Int).toNat = ms19
  have hn20 := hn18.2.2.2.2.2 S19 V19 r19 mc19 ms19 hrhn20.symm hShn20.symm hVhn20.symm hmhn20.symm hkhn20.symm
  refine X_putfield (ci := 11) (k := 11) (z := r19) dX11_init_74 rfl (by decide) kf_RX11_48 (Or.inr (Or.inr (Or.inr (Or.inr ⟨_, rfl⟩)))) (Or.inr ⟨rfl, rfl, rfl⟩) rfl (fun hv => hv) hn20.1 ?_
  refine X_aload_n dX11_init_77 rfl ?_
  refine X_bipush dX11_init_78 (by decide) (by decide) ?_
  refine X_anewarr (t := 34) dX11_init_80 kc_RX11_51 (by decide) rfl (by decide) hn20.2.1 hn20.2.2.1 hn20.2.2.2.1 hn20.2.2.2.2.1 ?_
  generalize hShn22 : nw S19 34 20 = S21
  generalize hVhn22 : clr (up V19 x0 11 r19) (S19.2.2 + 1) = V21
  generalize hrhn22 : S19.2.2 + 1 = r21 at hVhn22 ⊢
  generalize hmhn22 : mc19 - 1 = mc21
  generalize hkhn22 : ms19 - (20 : Int).toNat = ms21
  have hn22 := hn20.2.2.2.2.2 S21 V21 r21 mc21 ms21 hrhn22.symm hShn22.symm hVhn22.symm hmhn22.symm hkhn22.symm
  refine X_putfield (ci := 11) (k := 13) (z := r21) dX11_init_83 rfl (by decide) kf_RX11_53 (Or.inr (Or.inr (Or.inr (Or.inr ⟨_, rfl⟩)))) (Or.inr ⟨rfl, rfl, rfl⟩) rfl (fun hv => hv) hn22.1 ?_
  refine X_aload_n dX11_init_86 rfl ?_
  refine X_newT (t := 5) (ci := 4) rfl dX11_init_87 rfl ⟨kc_RX11_51, kn_4⟩ kd_4 hn22.2.1 hn22.2.2.1 ?_
  generalize hShn24 : nw S21 5 0 = S23
  generalize hVhn24 : clr (up V21 x0 13 r21) (S21.2.2 + 1) = V23
  generalize hrhn24 : S21.2.2 + 1 = r23 at hVhn24 ⊢
  generalize hmhn24 : mc21 - 1 = mc23
  generalize hkhn24 : ms21 - 5 = ms23
  have hn24 := hn22.2.2.2 S23 V23 r23 mc23 ms23 hrhn24.symm hShn24.symm hVhn24.symm hmhn24.symm hkhn24.symm
  refine X_dup dX11_init_90 (rv_cat _) ?_
  refine X_invIN (as := []) (st := [vr r23, vr x0]) okX4_init dX11_init_91 (host := RX11) (fun U hU => hU.2.2.2.2.2.1.2.1) rfl rfl (Nat.le_of_ble_eq_true rfl) hn24.1 (CT.imp hn24.2 (fun z25 S25 V25 mc25 ms25 hc26 => ?_))
  refine X_putfield (ci := 11) (k := 15) (z := r23) dX11_init_94 rfl (by decide) kf_RX11_58 (Or.inr (Or.inr (Or.inr (Or.inl ⟨_, rfl⟩)))) (Or.inl rfl) rfl (fun hv => hv) hc26.1 ?_
  exact X_ret (z := 0) dX11_init_97 rfl (fun _ => trivial) hc26.2
theorem qX11_init {l : Launch} {G : GT} {Q : Int → Sh → Mem → Prop} {d : Nat} {S : Sh} {V : Mem} {mc ms : Nat} {x0 : Int} (h : 0 ≤ x0 → XJ l G bX11_init Q d 0 [vr x0] [] S V mc ms) : Ct l G bX11_init Q d mc ms [vr x0] S V := Ct.of okX11_init.1 trivial (Nat.le_of_ble_eq_true rfl) (fun hv => h (hv _ (List.mem_of_getElem? (i := 0) rfl)))
set_option maxRecDepth 10000 in
theorem vX11_feed_0 {l : Launch} {G : GT} {Q : Int → Sh → Mem → Prop} {d : Nat} {S : Sh} {V : Mem} {mc ms : Nat} {x0 x1 x3 : Int} (h : (x3 < 1 → Q (-4) S V) ∧ (¬ (x3 < 1) → (x3 ≤ 8 → S.1 x0 = 12 ∧ -2147483648 ≤ (V x0 1) + x3 ∧ (V x0 1) + x3 ≤ 2147483647 ∧ (((V x0 1) + x3) ≤ 3000 → -2147483648 ≤ x3 - 1 ∧ x3 - 1 ≤ 2147483647 ∧ XJ l G bX11_feed Q d 34 [vr x0, vl x1, vu, vi x3, vi (x3 - 1)] [] S V mc ms) ∧ (¬ (((V x0 1) + x3) ≤ 3000) → Q (-2) S V)) ∧ (¬ (x3 ≤ 8) → Q (-4) S V))) : XJ l G bX11_feed Q d 0 [vr x0, vl x1, vu, vi x3, vu] [] S V mc ms := by
  refine X_iload_n dX11_feed_0 rfl ?_
  refine X_iconst dX11_feed_1 (by decide) ?_
  refine X_icmp_lt dX11_feed_2 (tgt := 11) rfl (fun c1 => ?_) (fun c1 => ?_)
  · refine X_bipush dX11_feed_11 (by decide) (by decide) ?_
    exact X_ret (z := (-4)) dX11_feed_13 rfl (fun hv => vok_h hv) (h.1 c1)
  · refine X_iload_n dX11_feed_5 rfl ?_
    refine X_bipush dX11_feed_6 (by decide) (by decide) ?_
    refine X_icmp_le dX11_feed_8 (tgt := 14) rfl (fun c2 => ?_) (fun c2 => ?_)
    · refine X_aload_n dX11_feed_14 rfl ?_
      refine X_getfield (ci := 11) (k := 1) (v := vi (V x0 1)) dX11_feed_15 rfl (by decide) kf_RX11_62 rfl ((h.2 c1).1 c2).1 ?_
      refine X_iload_n dX11_feed_18 rfl ?_
      refine X_iaddN dX11_feed_19 ((h.2 c1).1 c2).2.1 ((h.2 c1).1 c2).2.2.1 ?_
      refine X_sipush dX11_feed_20 (by decide) (by decide) ?_
      refine X_icmp_le dX11_feed_23 (tgt := 29) rfl (fun c3 => ?_) (fun c3 => ?_)
      · refine X_iload_n dX11_feed_29 rfl ?_
        refine X_iconst dX11_feed_30 (by decide) ?_
        refine X_isubN dX11_feed_31 (((h.2 c1).1 c2).2.2.2.1 c3).1 (((h.2 c1).1 c2).2.2.2.1 c3).2.1 ?_
        refine X_istore dX11_feed_32 (by decide) rfl ?_
        exact (((h.2 c1).1 c2).2.2.2.1 c3).2.2
      · refine X_bipush dX11_feed_26 (by decide) (by decide) ?_
        exact X_ret (z := (-2)) dX11_feed_28 rfl (fun hv => vok_h hv) (((h.2 c1).1 c2).2.2.2.2 c3)
    · refine X_bipush dX11_feed_11 (by decide) (by decide) ?_
      exact X_ret (z := (-4)) dX11_feed_13 rfl (fun hv => vok_h hv) ((h.2 c1).2 c2)
set_option maxRecDepth 10000 in
theorem vX11_feed_34 {l : Launch} {G : GT} {Q : Int → Sh → Mem → Prop} {d : Nat} {S : Sh} {V : Mem} {mc ms : Nat} {x0 x1 x3 x4 : Int} (h : (x4 < 0 → S.1 x0 = 12 ∧ Q (V x0 1) S V) ∧ (¬ (x4 < 0) → -2147483648 ≤ 8 * x4 ∧ 8 * x4 ≤ 2147483647 ∧ S.1 x0 = 12 ∧ CT l G bX11_putByte d mc ms [vr x0, vi (wr (lUshr x1 (8 * x4)))] S V (fun z2 S2 V2 mc2 ms2 => -2147483648 ≤ x4 - 1 ∧ x4 - 1 ≤ 2147483647 ∧ XJ l G bX11_feed Q d 34 [vr x0, vl x1, vu, vi x3, vi (x4 - 1)] [] S2 V2 mc2 ms2))) : XJ l G bX11_feed Q d 34 [vr x0, vl x1, vu, vi x3, vi x4] [] S V mc ms := by
  refine X_iload dX11_feed_34 rfl ?_
  refine X_if_lt dX11_feed_36 (tgt := 57) rfl (fun c1 => ?_) (fun c1 => ?_)
  · refine X_aload_n dX11_feed_57 rfl ?_
    refine X_getfield (ci := 11) (k := 1) (v := vi (V x0 1)) dX11_feed_58 rfl (by decide) kf_RX11_62 rfl (h.1 c1).1 ?_
    exact X_ret (z := (V x0 1)) dX11_feed_61 rfl (fun hv => vok_h hv) (h.1 c1).2
  · refine X_aload_n dX11_feed_39 rfl ?_
    refine X_lload_n dX11_feed_40 rfl ?_
    refine X_bipush dX11_feed_41 (by decide) (by decide) ?_
    refine X_iload dX11_feed_43 rfl ?_
    refine X_imulN dX11_feed_45 (h.2 c1).1 (h.2 c1).2.1 ?_
    refine X_lushr dX11_feed_46 ?_
    refine X_l2i dX11_feed_47 ?_
    refine X_invV (ci := 11) (as := [vi (wr (lUshr x1 (8 * x4)))]) (st := []) okX11_putByte dX11_feed_48 km_RX11_66 rfl rfl (Nat.le_of_ble_eq_true rfl) rfl rfl (h.2 c1).2.2.1 (CT.imp (h.2 c1).2.2.2 (fun z2 S2 V2 mc2 ms2 hc3 => ?_))
    refine X_iincN dX11_feed_51 rfl (by decide) rfl (e := x4 - 1) Int.sub_eq_add_neg hc3.1 hc3.2.1 ?_
    refine X_goto dX11_feed_54 (tgt := 34) rfl ?_
    exact hc3.2.2
theorem qX11_feed {l : Launch} {G : GT} {Q : Int → Sh → Mem → Prop} {d : Nat} {S : Sh} {V : Mem} {mc ms : Nat} {x0 x1 x3 : Int} (h : 0 ≤ x0 → inL x1 → inI x3 → XJ l G bX11_feed Q d 0 [vr x0, vl x1, vu, vi x3, vu] [] S V mc ms) : Ct l G bX11_feed Q d mc ms [vr x0, vl x1, vi x3] S V := Ct.of okX11_feed.1 trivial (Nat.le_of_ble_eq_true rfl) (fun hv => h (hv _ (List.mem_of_getElem? (i := 0) rfl)) (hv _ (List.mem_of_getElem? (i := 1) rfl)) (hv _ (List.mem_of_getElem? (i := 2) rfl)))
set_option maxRecDepth 10000 in
theorem vX11_cut_0 {l : Launch} {G : GT} {Q : Int → Sh → Mem → Prop} {d : Nat} {S : Sh} {V : Mem} {mc ms : Nat} {x0 x1 : Int} (h : (x1 < 0 → Q (-4) S V) ∧ (¬ (x1 < 0) → S.1 x0 = 12 ∧ (x1 ≤ (V x0 1) → Q x1 S (up V x0 1 x1)) ∧ (¬ (x1 ≤ (V x0 1)) → Q (-4) S V))) : XJ l G bX11_cut Q d 0 [vr x0, vi x1] [] S V mc ms := by
  refine X_iload_n dX11_cut_0 rfl ?_
  refine X_if_lt dX11_cut_1 (tgt := 12) rfl (fun c1 => ?_) (fun c1 => ?_)
  · refine X_bipush dX11_cut_12 (by decide) (by decide) ?_
    exact X_ret (z := (-4)) dX11_cut_14 rfl (fun hv => vok_h hv) (h.1 c1)
  · refine X_iload_n dX11_cut_4 rfl ?_
    refine X_aload_n dX11_cut_5 rfl ?_
    refine X_getfield (ci := 11) (k := 1) (v := vi (V x0 1)) dX11_cut_6 rfl (by decide) kf_RX11_62 rfl (h.2 c1).1 ?_
    refine X_icmp_le dX11_cut_9 (tgt := 15) rfl (fun c2 => ?_) (fun c2 => ?_)
    · refine X_aload_n dX11_cut_15 rfl ?_
      refine X_iload_n dX11_cut_16 rfl ?_
      refine X_putfield (ci := 11) (k := 1) (z := x1) dX11_cut_17 rfl (by decide) kf_RX11_62 (Or.inl rfl) (Or.inl rfl) rfl (fun hv => hv) (h.2 c1).1 ?_
      refine X_iload_n dX11_cut_20 rfl ?_
      exact X_ret (z := x1) dX11_cut_21 rfl (fun hv => vok_h hv) ((h.2 c1).2.1 c2)
    · refine X_bipush dX11_cut_12 (by decide) (by decide) ?_
      exact X_ret (z := (-4)) dX11_cut_14 rfl (fun hv => vok_h hv) ((h.2 c1).2.2 c2)
theorem qX11_cut {l : Launch} {G : GT} {Q : Int → Sh → Mem → Prop} {d : Nat} {S : Sh} {V : Mem} {mc ms : Nat} {x0 x1 : Int} (h : 0 ≤ x0 → inI x1 → XJ l G bX11_cut Q d 0 [vr x0, vi x1] [] S V mc ms) : Ct l G bX11_cut Q d mc ms [vr x0, vi x1] S V := Ct.of okX11_cut.1 trivial (Nat.le_of_ble_eq_true rfl) (fun hv => h (hv _ (List.mem_of_getElem? (i := 0) rfl)) (hv _ (List.mem_of_getElem? (i := 1) rfl)))
set_option maxRecDepth 10000 in
theorem vX11_book_0 {l : Launch} {G : GT} {Q : Int → Sh → Mem → Prop} {d : Nat} {S : Sh} {V : Mem} {mc ms : Nat} {x0 : Int} (h : S.1 x0 = 12 ∧ ((V x0 6) < 10 → S.1 (V x0 2) = 10 ∧ CT l G bX9_cutUp d mc ms [vr (V x0 2), vr (V x0 0), vi (V x0 1)] S V (fun z2 S2 V2 mc2 ms2 => S2.1 x0 = 12 ∧ S2.1 (V2 x0 3) = 6 ∧ CT l G bX5_readBook d mc2 ms2 [vr (V2 x0 3)] S2 (up V2 x0 1 0) (fun z4 S4 V4 mc4 ms4 => S4.1 x0 = 12 ∧ S4.1 (V4 x0 3) = 6 ∧ (z4 ≠ 0 → S4.1 (V4 x0 5) = 30 ∧ S4.1 z4 = 1 ∧ 0 ≤ (V4 x0 6) ∧ (V4 x0 6) < S4.2.1 (V4 x0 5) ∧ -2147483648 ≤ (V4 x0 6) + 1 ∧ (V4 x0 6) + 1 ≤ 2147483647 ∧ -2147483648 ≤ ((V4 x0 6) + 1) - 1 ∧ ((V4 x0 6) + 1) - 1 ≤ 2147483647 ∧ Q (((V4 x0 6) + 1) - 1) S4 (up (up (up V4 x0 7 (V4 (V4 x0 3) 10)) (V4 x0 5) (V4 x0 6) z4) x0 6 ((V4 x0 6) + 1))) ∧ (¬ (z4 ≠ 0) → -2147483648 ≤ (-10) - (V4 (V4 x0 3) 11) ∧ (-10) - (V4 (V4 x0 3) 11) ≤ 2147483647 ∧ Q ((-10) - (V4 (V4 x0 3) 11)) S4 (up V4 x0 7 (V4 (V4 x0 3) 10)))))) ∧ (¬ ((V x0 6) < 10) → Q (-2) S V)) : XJ l G bX11_book Q d 0 [vr x0, vu] [] S V mc ms := by
  refine X_aload_n dX11_book_0 rfl ?_
  refine X_getfield (ci := 11) (k := 6) (v := vi (V x0 6)) dX11_book_1 rfl (by decide) kf_RX11_70 rfl h.1 ?_
  refine X_bipush dX11_book_4 (by decide) (by decide) ?_
  refine X_icmp_lt dX11_book_6 (tgt := 12) rfl (fun c1 => ?_) (fun c1 => ?_)
  · refine X_aload_n dX11_book_12 rfl ?_
    refine X_getfield (ci := 11) (k := 2) (v := vr (V x0 2)) dX11_book_13 rfl (by decide) kf_RX11_16 rfl h.1 ?_
    refine X_aload_n dX11_book_16 rfl ?_
    refine X_getfield (ci := 11) (k := 0) (v := vr (V x0 0)) dX11_book_17 rfl (by decide) kf_RX11_9 rfl h.1 ?_
    refine X_aload_n dX11_book_20 rfl ?_
    refine X_getfield (ci := 11) (k := 1) (v := vi (V x0 1)) dX11_book_21 rfl (by decide) kf_RX11_62 rfl h.1 ?_
    refine X_invV (ci := 9) (as := [vr (V x0 0), vi (V x0 1)]) (st := []) okX9_cutUp dX11_book_24 km_RX11_73 rfl rfl (Nat.le_of_ble_eq_true rfl) rfl rfl (h.2.1 c1).1 (CT.imp (h.2.1 c1).2 (fun z2 S2 V2 mc2 ms2 hc3 => ?_))
    refine X_aload_n dX11_book_27 rfl ?_
    refine X_iconst dX11_book_28 (by decide) ?_
    refine X_putfield (ci := 11) (k := 1) (z := 0) dX11_book_29 rfl (by decide) kf_RX11_62 (Or.inl rfl) (Or.inl rfl) rfl (fun hv => hv) hc3.1 ?_
    refine X_aload_n dX11_book_32 rfl ?_
    refine X_getfield (ci := 11) (k := 3) (v := vr (V2 x0 3)) dX11_book_33 rfl (by decide) kf_RX11_25 (congrArg vr (up_ne (Or.inr (by decide)))) hc3.1 ?_
    refine X_invV (ci := 5) (as := []) (st := []) okX5_readBook dX11_book_36 km_RX11_77 rfl rfl (Nat.le_of_ble_eq_true rfl) rfl rfl hc3.2.1 (CT.imp hc3.2.2 (fun z4 S4 V4 mc4 ms4 hc5 => ?_))
    refine X_astore_n dX11_book_39 (by decide) rfl ?_
    refine X_aload_n dX11_book_40 rfl ?_
    refine X_aload_n dX11_book_41 rfl ?_
    refine X_getfield (ci := 11) (k := 3) (v := vr (V4 x0 3)) dX11_book_42 rfl (by decide) kf_RX11_25 rfl hc5.1 ?_
    refine X_getfield (ci := 5) (k := 10) (v := vi (V4 (V4 x0 3) 10)) dX11_book_45 rfl (by decide) kf_RX11_81 rfl hc5.2.1 ?_
    refine X_putfield (ci := 11) (k := 7) (z := (V4 (V4 x0 3) 10)) dX11_book_48 rfl (by decide) kf_RX11_84 (Or.inl rfl) (Or.inl rfl) rfl (fun hv => hv) hc5.1 ?_
    refine X_aload_n dX11_book_51 rfl ?_
    refine X_ifnonnull dX11_book_52 (tgt := 66) rfl (fun c6 => ?_) (fun c6 => ?_)
    · refine X_aload_n dX11_book_66 rfl ?_
      refine X_getfield (ci := 11) (k := 5) (v := vr (V4 x0 5)) dX11_book_67 rfl (by decide) kf_RX11_38 (congrArg vr (up_ne (Or.inr (by decide)))) hc5.1 ?_
      refine X_aload_n dX11_book_70 rfl ?_
      refine X_getfield (ci := 11) (k := 6) (v := vi (V4 x0 6)) dX11_book_71 rfl (by decide) kf_RX11_70 (congrArg vi (up_ne (Or.inr (by decide)))) hc5.1 ?_
      refine X_aload_n dX11_book_74 rfl ?_
      refine X_aastore (ci := 0) (t := 30) rfl dX11_book_75 (by decide) rfl (hc5.2.2.1 c6).1 (hc5.2.2.1 c6).2.1 (hc5.2.2.1 c6).2.2.1 (hc5.2.2.1 c6).2.2.2.1 ?_
      refine X_aload_n dX11_book_76 rfl ?_
      refine X_dup dX11_book_77 (rv_cat _) ?_
      refine X_getfield (ci := 11) (k := 6) (v := vi (V4 x0 6)) dX11_book_78 rfl (by decide) kf_RX11_70 (congrArg vi ((up_ne (Or.inl (tag_ne hc5.1 (hc5.2.2.1 c6).1 (by decide)))).trans (up_ne (Or.inr (by decide))))) hc5.1 ?_
      refine X_iconst dX11_book_81 (by decide) ?_
      refine X_iaddN dX11_book_82 (hc5.2.2.1 c6).2.2.2.2.1 (hc5.2.2.1 c6).2.2.2.2.2.1 ?_
      refine X_putfield (ci := 11) (k := 6) (z := ((V4 x0 6) + 1)) dX11_book_83 rfl (by decide) kf_RX11_70 (Or.inl rfl) (Or.inl rfl) rfl (fun hv => hv) hc5.1 ?_
      refine X_aload_n dX11_book_86 rfl ?_
      refine X_getfield (ci := 11) (k := 6) (v := vi ((V4 x0 6) + 1)) dX11_book_87 rfl (by decide) kf_RX11_70 (congrArg vi up_eq) hc5.1 ?_
      refine X_iconst dX11_book_90 (by decide) ?_
      refine X_isubN dX11_book_91 (hc5.2.2.1 c6).2.2.2.2.2.2.1 (hc5.2.2.1 c6).2.2.2.2.2.2.2.1 ?_
      exact X_ret (z := (((V4 x0 6) + 1) - 1)) dX11_book_92 rfl (fun hv => vok_h hv) (hc5.2.2.1 c6).2.2.2.2.2.2.2.2
    · refine X_bipush dX11_book_55 (by decide) (by decide) ?_
      refine X_aload_n dX11_book_57 rfl ?_
      refine X_getfield (ci := 11) (k := 3) (v := vr (V4 x0 3)) dX11_book_58 rfl (by decide) kf_RX11_25 (congrArg vr (up_ne (Or.inr (by decide)))) hc5.1 ?_
      refine X_getfield (ci := 5) (k := 11) (v := vi (V4 (V4 x0 3) 11)) dX11_book_61 rfl (by decide) kf_RX11_87 (congrArg vi (up_ne (Or.inl (tag_ne hc5.2.1 hc5.1 (by decide))))) hc5.2.1 ?_
      refine X_isubN dX11_book_64 (hc5.2.2.2 c6).1 (hc5.2.2.2 c6).2.1 ?_
      exact X_ret (z := ((-10) - (V4 (V4 x0 3) 11))) dX11_book_65 rfl (fun hv => vok_h hv) (hc5.2.2.2 c6).2.2
  · refine X_bipush dX11_book_9 (by decide) (by decide) ?_
    exact X_ret (z := (-2)) dX11_book_11 rfl (fun hv => vok_h hv) (h.2.2 c1)
theorem qX11_book {l : Launch} {G : GT} {Q : Int → Sh → Mem → Prop} {d : Nat} {S : Sh} {V : Mem} {mc ms : Nat} {x0 : Int} (h : 0 ≤ x0 → XJ l G bX11_book Q d 0 [vr x0, vu] [] S V mc ms) : Ct l G bX11_book Q d mc ms [vr x0] S V := Ct.of okX11_book.1 trivial (Nat.le_of_ble_eq_true rfl) (fun hv => h (hv _ (List.mem_of_getElem? (i := 0) rfl)))
set_option maxRecDepth 10000 in
theorem vX11_wrong_0 {l : Launch} {G : GT} {Q : Int → Sh → Mem → Prop} {d : Nat} {S : Sh} {V : Mem} {mc ms : Nat} {x0 : Int} (h : S.1 x0 = 12 ∧ Q (V x0 7) S V) : XJ l G bX11_wrong Q d 0 [vr x0] [] S V mc ms := by
  refine X_aload_n dX11_wrong_0 rfl ?_
  refine X_getfield (ci := 11) (k := 7) (v := vi (V x0 7)) dX11_wrong_1 rfl (by decide) kf_RX11_84 rfl h.1 ?_
  exact X_ret (z := (V x0 7)) dX11_wrong_4 rfl (fun hv => vok_h hv) h.2
theorem qX11_wrong {l : Launch} {G : GT} {Q : Int → Sh → Mem → Prop} {d : Nat} {S : Sh} {V : Mem} {mc ms : Nat} {x0 : Int} (h : 0 ≤ x0 → XJ l G bX11_wrong Q d 0 [vr x0] [] S V mc ms) : Ct l G bX11_wrong Q d mc ms [vr x0] S V := Ct.of okX11_wrong.1 trivial (Nat.le_of_ble_eq_true rfl) (fun hv => h (hv _ (List.mem_of_getElem? (i := 0) rfl)))
set_option maxRecDepth 10000 in
theorem vX11_told_0 {l : Launch} {G : GT} {Q : Int → Sh → Mem → Prop} {d : Nat} {S : Sh} {V : Mem} {mc ms : Nat} {x0 x1 x2 : Int} (h : S.1 x0 = 12 ∧ CT l G bX11_bookAt d mc ms [vr x0, vi x1] S V (fun z1 S1 V1 mc1 ms1 => (z1 ≠ 0 → (x2 = 0 → S1.1 z1 = 1 ∧ Q (V1 z1 1) S1 V1) ∧ (¬ x2 = 0 → (x2 = 1 → S1.1 z1 = 1 ∧ Q (V1 z1 2) S1 V1) ∧ (¬ x2 = 1 → (x2 = 2 → S1.1 z1 = 1 ∧ Q (V1 z1 6) S1 V1) ∧ (¬ x2 = 2 → (x2 = 3 → S1.1 z1 = 1 ∧ Q (V1 z1 9) S1 V1) ∧ (¬ x2 = 3 → Q (-1) S1 V1))))) ∧ (¬ (z1 ≠ 0) → Q (-1) S1 V1))) : XJ l G bX11_told Q d 0 [vr x0, vi x1, vi x2, vu] [] S V mc ms := by
  refine X_aload_n dX11_told_0 rfl ?_
  refine X_iload_n dX11_told_1 rfl ?_
  refine X_invV (ci := 11) (as := [vi x1]) (st := []) okX11_bookAt dX11_told_2 km_RX11_90 rfl rfl (Nat.le_of_ble_eq_true rfl) rfl rfl h.1 (CT.imp h.2 (fun z1 S1 V1 mc1 ms1 hc2 => ?_))
  refine X_astore_n dX11_told_5 (by decide) rfl ?_
  refine X_aload_n dX11_told_6 rfl ?_
  refine X_ifnonnull dX11_told_7 (tgt := 12) rfl (fun c3 => ?_) (fun c3 => ?_)
  · refine X_iload_n dX11_told_12 rfl ?_
    by_cases c4 : x2 = 0
    · refine X_table dX11_told_13 44 31 (by rw [c4]; rfl) rfl ?_
      refine X_aload_n dX11_told_44 rfl ?_
      refine X_getfield (ci := 0) (k := 1) (v := vi (V1 z1 1)) dX11_told_45 rfl (by decide) kf_RX11_94 rfl ((hc2.1 c3).1 c4).1 ?_
      exact X_ret (z := (V1 z1 1)) dX11_told_48 rfl (fun hv => vok_h hv) ((hc2.1 c3).1 c4).2
    by_cases c5 : x2 = 1
    · refine X_table dX11_told_13 49 36 (by rw [c5]; rfl) rfl ?_
      refine X_aload_n dX11_told_49 rfl ?_
      refine X_getfield (ci := 0) (k := 2) (v := vi (V1 z1 2)) dX11_told_50 rfl (by decide) kf_RX11_97 rfl (((hc2.1 c3).2 c4).1 c5).1 ?_
      exact X_ret (z := (V1 z1 2)) dX11_told_53 rfl (fun hv => vok_h hv) (((hc2.1 c3).2 c4).1 c5).2
    by_cases c6 : x2 = 2
    · refine X_table dX11_told_13 54 41 (by rw [c6]; rfl) rfl ?_
      refine X_aload_n dX11_told_54 rfl ?_
      refine X_getfield (ci := 0) (k := 6) (v := vi (V1 z1 6)) dX11_told_55 rfl (by decide) kf_RX11_100 rfl ((((hc2.1 c3).2 c4).2 c5).1 c6).1 ?_
      exact X_ret (z := (V1 z1 6)) dX11_told_58 rfl (fun hv => vok_h hv) ((((hc2.1 c3).2 c4).2 c5).1 c6).2
    by_cases c7 : x2 = 3
    · refine X_table dX11_told_13 59 46 (by rw [c7]; rfl) rfl ?_
      refine X_aload_n dX11_told_59 rfl ?_
      refine X_getfield (ci := 0) (k := 9) (v := vi (V1 z1 9)) dX11_told_60 rfl (by decide) kf_RX11_103 rfl (((((hc2.1 c3).2 c4).2 c5).2 c6).1 c7).1 ?_
      exact X_ret (z := (V1 z1 9)) dX11_told_63 rfl (fun hv => vok_h hv) (((((hc2.1 c3).2 c4).2 c5).2 c6).1 c7).2
    refine X_table dX11_told_13 64 51 (tbl_df (by omega)) rfl ?_
    refine X_iconst dX11_told_64 (by decide) ?_
    exact X_ret (z := (-1)) dX11_told_65 rfl (fun hv => vok_h hv) (((((hc2.1 c3).2 c4).2 c5).2 c6).2 c7)
  · refine X_iconst dX11_told_10 (by decide) ?_
    exact X_ret (z := (-1)) dX11_told_11 rfl (fun hv => vok_h hv) (hc2.2 c3)
theorem qX11_told {l : Launch} {G : GT} {Q : Int → Sh → Mem → Prop} {d : Nat} {S : Sh} {V : Mem} {mc ms : Nat} {x0 x1 x2 : Int} (h : 0 ≤ x0 → inI x1 → inI x2 → XJ l G bX11_told Q d 0 [vr x0, vi x1, vi x2, vu] [] S V mc ms) : Ct l G bX11_told Q d mc ms [vr x0, vi x1, vi x2] S V := Ct.of okX11_told.1 trivial (Nat.le_of_ble_eq_true rfl) (fun hv => h (hv _ (List.mem_of_getElem? (i := 0) rfl)) (hv _ (List.mem_of_getElem? (i := 1) rfl)) (hv _ (List.mem_of_getElem? (i := 2) rfl)))
set_option maxRecDepth 10000 in
theorem vX11_about_0 {l : Launch} {G : GT} {Q : Int → Sh → Mem → Prop} {d : Nat} {S : Sh} {V : Mem} {mc ms : Nat} {x0 x1 x2 x3 : Int} (h : S.1 x0 = 12 ∧ CT l G bX11_enumOf d mc ms [vr x0, vi x1, vi x2] S V (fun z1 S1 V1 mc1 ms1 => (z1 ≠ 0 → (x3 = 0 → S1.1 z1 = 4 ∧ Q (V1 z1 4) S1 V1) ∧ (¬ x3 = 0 → (x3 = 1 → S1.1 z1 = 4 ∧ Q (V1 z1 8) S1 V1) ∧ (¬ x3 = 1 → (x3 = 2 → S1.1 z1 = 4 ∧ Q (V1 z1 10) S1 V1) ∧ (¬ x3 = 2 → (x3 = 3 → S1.1 z1 = 4 ∧ Q (V1 z1 14) S1 V1) ∧ (¬ x3 = 3 → (x3 = 4 → S1.1 z1 = 4 ∧ Q (V1 z1 16) S1 V1) ∧ (¬ x3 = 4 → Q (-1) S1 V1)))))) ∧ (¬ (z1 ≠ 0) → Q (-1) S1 V1))) : XJ l G bX11_about Q d 0 [vr x0, vi x1, vi x2, vi x3, vu] [] S V mc ms := by
  refine X_aload_n dX11_about_0 rfl ?_
  refine X_iload_n dX11_about_1 rfl ?_
  refine X_iload_n dX11_about_2 rfl ?_
  refine X_invV (ci := 11) (as := [vi x1, vi x2]) (st := []) okX11_enumOf dX11_about_3 km_RX11_106 rfl rfl (Nat.le_of_ble_eq_true rfl) rfl rfl h.1 (CT.imp h.2 (fun z1 S1 V1 mc1 ms1 hc2 => ?_))
  refine X_astore dX11_about_6 (by decide) rfl ?_
  refine X_aload dX11_about_8 rfl ?_
  refine X_ifnonnull dX11_about_10 (tgt := 15) rfl (fun c3 => ?_) (fun c3 => ?_)
  · refine X_iload_n dX11_about_15 rfl ?_
    by_cases c4 : x3 = 0
    · refine X_table dX11_about_16 52 36 (by rw [c4]; rfl) rfl ?_
      refine X_aload dX11_about_52 rfl ?_
      refine X_getfield (ci := 3) (k := 4) (v := vi (V1 z1 4)) dX11_about_54 rfl (by decide) kf_RX11_110 rfl ((hc2.1 c3).1 c4).1 ?_
      exact X_ret (z := (V1 z1 4)) dX11_about_57 rfl (fun hv => vok_h hv) ((hc2.1 c3).1 c4).2
    by_cases c5 : x3 = 1
    · refine X_table dX11_about_16 58 42 (by rw [c5]; rfl) rfl ?_
      refine X_aload dX11_about_58 rfl ?_
      refine X_getfield (ci := 3) (k := 8) (v := vi (V1 z1 8)) dX11_about_60 rfl (by decide) kf_RX11_115 rfl (((hc2.1 c3).2 c4).1 c5).1 ?_
      exact X_ret (z := (V1 z1 8)) dX11_about_63 rfl (fun hv => vok_h hv) (((hc2.1 c3).2 c4).1 c5).2
    by_cases c6 : x3 = 2
    · refine X_table dX11_about_16 64 48 (by rw [c6]; rfl) rfl ?_
      refine X_aload dX11_about_64 rfl ?_
      refine X_getfield (ci := 3) (k := 10) (v := vi (V1 z1 10)) dX11_about_66 rfl (by decide) kf_RX11_118 rfl ((((hc2.1 c3).2 c4).2 c5).1 c6).1 ?_
      exact X_ret (z := (V1 z1 10)) dX11_about_69 rfl (fun hv => vok_h hv) ((((hc2.1 c3).2 c4).2 c5).1 c6).2
    by_cases c7 : x3 = 3
    · refine X_table dX11_about_16 70 54 (by rw [c7]; rfl) rfl ?_
      refine X_aload dX11_about_70 rfl ?_
      refine X_getfield (ci := 3) (k := 14) (v := vi (V1 z1 14)) dX11_about_72 rfl (by decide) kf_RX11_121 rfl (((((hc2.1 c3).2 c4).2 c5).2 c6).1 c7).1 ?_
      exact X_ret (z := (V1 z1 14)) dX11_about_75 rfl (fun hv => vok_h hv) (((((hc2.1 c3).2 c4).2 c5).2 c6).1 c7).2
    by_cases c8 : x3 = 4
    · refine X_table dX11_about_16 76 60 (by rw [c8]; rfl) rfl ?_
      refine X_aload dX11_about_76 rfl ?_
      refine X_getfield (ci := 3) (k := 16) (v := vi (V1 z1 16)) dX11_about_78 rfl (by decide) kf_RX11_124 rfl ((((((hc2.1 c3).2 c4).2 c5).2 c6).2 c7).1 c8).1 ?_
      exact X_ret (z := (V1 z1 16)) dX11_about_81 rfl (fun hv => vok_h hv) ((((((hc2.1 c3).2 c4).2 c5).2 c6).2 c7).1 c8).2
    refine X_table dX11_about_16 82 66 (tbl_df (by omega)) rfl ?_
    refine X_iconst dX11_about_82 (by decide) ?_
    exact X_ret (z := (-1)) dX11_about_83 rfl (fun hv => vok_h hv) ((((((hc2.1 c3).2 c4).2 c5).2 c6).2 c7).2 c8)
  · refine X_iconst dX11_about_13 (by decide) ?_
    exact X_ret (z := (-1)) dX11_about_14 rfl (fun hv => vok_h hv) (hc2.2 c3)
theorem qX11_about {l : Launch} {G : GT} {Q : Int → Sh → Mem → Prop} {d : Nat} {S : Sh} {V : Mem} {mc ms : Nat} {x0 x1 x2 x3 : Int} (h : 0 ≤ x0 → inI x1 → inI x2 → inI x3 → XJ l G bX11_about Q d 0 [vr x0, vi x1, vi x2, vi x3, vu] [] S V mc ms) : Ct l G bX11_about Q d mc ms [vr x0, vi x1, vi x2, vi x3] S V := Ct.of okX11_about.1 trivial (Nat.le_of_ble_eq_true rfl) (fun hv => h (hv _ (List.mem_of_getElem? (i := 0) rfl)) (hv _ (List.mem_of_getElem? (i := 1) rfl)) (hv _ (List.mem_of_getElem? (i := 2) rfl)) (hv _ (List.mem_of_getElem? (i := 3) rfl)))
set_option maxRecDepth 10000 in
theorem vX11_state_0 {l : Launch} {G : GT} {Q : Int → Sh → Mem → Prop} {d : Nat} {S : Sh} {V : Mem} {mc ms : Nat} {x0 x1 x2 : Int} (h : S.1 x0 = 12 ∧ CT l G bX11_bookAt d mc ms [vr x0, vi x1] S V (fun z1 S1 V1 mc1 ms1 => (z1 = 0 → Q (-1) S1 V1) ∧ (¬ (z1 = 0) → S1.1 z1 = 1 ∧ CT l G bX0_hasItem d mc1 ms1 [vr z1, vi x2] S1 V1 (fun z4 S4 V4 mc4 ms4 => (z4 ≠ 0 → S4.1 z1 = 1 ∧ CT l G bX0_stateOf d mc4 ms4 [vr z1, vi x2] S4 V4 (fun z7 S7 V7 mc7 ms7 => Q z7 S7 V7)) ∧ (¬ (z4 ≠ 0) → Q (-1) S4 V4))))) : XJ l G bX11_state Q d 0 [vr x0, vi x1, vi x2, vu] [] S V mc ms := by
  refine X_aload_n dX11_state_0 rfl ?_
  refine X_iload_n dX11_state_1 rfl ?_
  refine X_invV (ci := 11) (as := [vi x1]) (st := []) okX11_bookAt dX11_state_2 km_RX11_90 rfl rfl (Nat.le_of_ble_eq_true rfl) rfl rfl h.1 (CT.imp h.2 (fun z1 S1 V1 mc1 ms1 hc2 => ?_))
  refine X_astore_n dX11_state_5 (by decide) rfl ?_
  refine X_aload_n dX11_state_6 rfl ?_
  refine X_ifnull dX11_state_7 (tgt := 18) rfl (fun c3 => ?_) (fun c3 => ?_)
  · refine X_iconst dX11_state_18 (by decide) ?_
    exact X_ret (z := (-1)) dX11_state_19 rfl (fun hv => vok_h hv) (hc2.1 c3)
  · refine X_aload_n dX11_state_10 rfl ?_
    refine X_iload_n dX11_state_11 rfl ?_
    refine X_invV (ci := 0) (as := [vi x2]) (st := []) okX0_hasItem dX11_state_12 km_RX11_127 rfl rfl (Nat.le_of_ble_eq_true rfl) rfl rfl (hc2.2 c3).1 (CT.imp (hc2.2 c3).2 (fun z4 S4 V4 mc4 ms4 hc5 => ?_))
    refine X_if_ne dX11_state_15 (tgt := 20) rfl (fun c6 => ?_) (fun c6 => ?_)
    · refine X_aload_n dX11_state_20 rfl ?_
      refine X_iload_n dX11_state_21 rfl ?_
      refine X_invV (ci := 0) (as := [vi x2]) (st := []) okX0_stateOf dX11_state_22 km_RX11_131 rfl rfl (Nat.le_of_ble_eq_true rfl) rfl rfl (hc5.1 c6).1 (CT.imp (hc5.1 c6).2 (fun z7 S7 V7 mc7 ms7 hc8 => ?_))
      exact X_ret (z := z7) dX11_state_25 rfl (fun hv => vok_h hv) hc8
    · refine X_iconst dX11_state_18 (by decide) ?_
      exact X_ret (z := (-1)) dX11_state_19 rfl (fun hv => vok_h hv) (hc5.2 c6)
theorem qX11_state {l : Launch} {G : GT} {Q : Int → Sh → Mem → Prop} {d : Nat} {S : Sh} {V : Mem} {mc ms : Nat} {x0 x1 x2 : Int} (h : 0 ≤ x0 → inI x1 → inI x2 → XJ l G bX11_state Q d 0 [vr x0, vi x1, vi x2, vu] [] S V mc ms) : Ct l G bX11_state Q d mc ms [vr x0, vi x1, vi x2] S V := Ct.of okX11_state.1 trivial (Nat.le_of_ble_eq_true rfl) (fun hv => h (hv _ (List.mem_of_getElem? (i := 0) rfl)) (hv _ (List.mem_of_getElem? (i := 1) rfl)) (hv _ (List.mem_of_getElem? (i := 2) rfl)))
set_option maxRecDepth 10000 in
theorem vX11_letter_0 {l : Launch} {G : GT} {Q : Int → Sh → Mem → Prop} {d : Nat} {S : Sh} {V : Mem} {mc ms : Nat} {x0 x1 x2 x3 x4 : Int} (h : S.1 x0 = 12 ∧ CT l G bX11_enumOf d mc ms [vr x0, vi x1, vi x2] S V (fun z1 S1 V1 mc1 ms1 => (z1 ≠ 0 → (x3 ≠ (-1) → S1.1 z1 = 4 ∧ CT l G bX3_constantAt d mc1 ms1 [vr z1, vi x3] S1 V1 (fun z5 S5 V5 mc5 ms5 => (z5 ≠ 0 → S5.1 z5 = 3 ∧ CT l G bX11_letterOf d mc5 ms5 [vl (V5 z5 0), vi x4] S5 V5 (fun z8 S8 V8 mc8 ms8 => Q z8 S8 V8)) ∧ (¬ (z5 ≠ 0) → Q (-1) S5 V5))) ∧ (¬ (x3 ≠ (-1)) → S1.1 z1 = 4 ∧ CT l G bX11_letterOf d mc1 ms1 [vl (V1 z1 0), vi x4] S1 V1 (fun z10 S10 V10 mc10 ms10 => Q z10 S10 V10))) ∧ (¬ (z1 ≠ 0) → Q (-1) S1 V1))) : XJ l G bX11_letter Q d 0 [vr x0, vi x1, vi x2, vi x3, vi x4, vu, vu] [] S V mc ms := by
  refine X_aload_n dX11_letter_0 rfl ?_
  refine X_iload_n dX11_letter_1 rfl ?_
  refine X_iload_n dX11_letter_2 rfl ?_
  refine X_invV (ci := 11) (as := [vi x1, vi x2]) (st := []) okX11_enumOf dX11_letter_3 km_RX11_106 rfl rfl (Nat.le_of_ble_eq_true rfl) rfl rfl h.1 (CT.imp h.2 (fun z1 S1 V1 mc1 ms1 hc2 => ?_))
  refine X_astore dX11_letter_6 (by decide) rfl ?_
  refine X_aload dX11_letter_8 rfl ?_
  refine X_ifnonnull dX11_letter_10 (tgt := 15) rfl (fun c3 => ?_) (fun c3 => ?_)
  · refine X_iload_n dX11_letter_15 rfl ?_
    refine X_iconst dX11_letter_16 (by decide) ?_
    refine X_icmp_ne dX11_letter_17 (tgt := 31) rfl (fun c4 => ?_) (fun c4 => ?_)
    · refine X_aload dX11_letter_31 rfl ?_
      refine X_iload_n dX11_letter_33 rfl ?_
      refine X_invV (ci := 3) (as := [vi x3]) (st := []) okX3_constantAt dX11_letter_34 km_RX11_143 rfl rfl (Nat.le_of_ble_eq_true rfl) rfl rfl ((hc2.1 c3).1 c4).1 (CT.imp ((hc2.1 c3).1 c4).2 (fun z5 S5 V5 mc5 ms5 hc6 => ?_))
      refine X_astore dX11_letter_37 (by decide) rfl ?_
      refine X_aload dX11_letter_39 rfl ?_
      refine X_ifnonnull dX11_letter_41 (tgt := 48) rfl (fun c7 => ?_) (fun c7 => ?_)
      · refine X_aload dX11_letter_48 rfl ?_
        refine X_getfield (ci := 2) (k := 0) (v := vl (V5 z5 0)) dX11_letter_50 rfl (by decide) kf_RX11_147 rfl (hc6.1 c7).1 ?_
        refine X_iload dX11_letter_53 rfl ?_
        refine X_invS (as := [vl (V5 z5 0), vi x4]) (st := []) okX11_letterOf dX11_letter_55 km_RX11_139 rfl rfl (Nat.le_of_ble_eq_true rfl) (CT.imp (hc6.1 c7).2 (fun z8 S8 V8 mc8 ms8 hc9 => ?_))
        exact X_ret (z := z8) dX11_letter_58 rfl (fun hv => vok_h hv) hc9
      · refine X_iconst dX11_letter_44 (by decide) ?_
        refine X_goto dX11_letter_45 (tgt := 58) rfl ?_
        exact X_ret (z := (-1)) dX11_letter_58 rfl (fun hv => vok_h hv) (hc6.2 c7)
    · refine X_aload dX11_letter_20 rfl ?_
      refine X_getfield (ci := 3) (k := 0) (v := vl (V1 z1 0)) dX11_letter_22 rfl (by decide) kf_RX11_135 rfl ((hc2.1 c3).2 c4).1 ?_
      refine X_iload dX11_letter_25 rfl ?_
      refine X_invS (as := [vl (V1 z1 0), vi x4]) (st := []) okX11_letterOf dX11_letter_27 km_RX11_139 rfl rfl (Nat.le_of_ble_eq_true rfl) (CT.imp ((hc2.1 c3).2 c4).2 (fun z10 S10 V10 mc10 ms10 hc11 => ?_))
      exact X_ret (z := z10) dX11_letter_30 rfl (fun hv => vok_h hv) hc11
  · refine X_iconst dX11_letter_13 (by decide) ?_
    exact X_ret (z := (-1)) dX11_letter_14 rfl (fun hv => vok_h hv) (hc2.2 c3)
theorem qX11_letter {l : Launch} {G : GT} {Q : Int → Sh → Mem → Prop} {d : Nat} {S : Sh} {V : Mem} {mc ms : Nat} {x0 x1 x2 x3 x4 : Int} (h : 0 ≤ x0 → inI x1 → inI x2 → inI x3 → inI x4 → XJ l G bX11_letter Q d 0 [vr x0, vi x1, vi x2, vi x3, vi x4, vu, vu] [] S V mc ms) : Ct l G bX11_letter Q d mc ms [vr x0, vi x1, vi x2, vi x3, vi x4] S V := Ct.of okX11_letter.1 trivial (Nat.le_of_ble_eq_true rfl) (fun hv => h (hv _ (List.mem_of_getElem? (i := 0) rfl)) (hv _ (List.mem_of_getElem? (i := 1) rfl)) (hv _ (List.mem_of_getElem? (i := 2) rfl)) (hv _ (List.mem_of_getElem? (i := 3) rfl)) (hv _ (List.mem_of_getElem? (i := 4) rfl)))
set_option maxRecDepth 10000 in
theorem vX11_body_0 {l : Launch} {G : GT} {Q : Int → Sh → Mem → Prop} {d : Nat} {S : Sh} {V : Mem} {mc ms : Nat} {x0 x1 x2 x3 x4 : Int} (h : S.1 x0 = 12 ∧ CT l G bX11_enumOf d mc ms [vr x0, vi x1, vi x2] S V (fun z1 S1 V1 mc1 ms1 => (z1 ≠ 0 → S1.1 z1 = 4 ∧ CT l G bX3_constantAt d mc1 ms1 [vr z1, vi x3] S1 V1 (fun z4 S4 V4 mc4 ms4 => (z4 ≠ 0 → S4.1 x0 = 12 ∧ CT l G bX11_hasAct d mc4 ms4 [vr x0, vi x1, vi x4] S4 V4 (fun z7 S7 V7 mc7 ms7 => (z7 ≠ 0 → (z4 ≠ 0 → S7.1 z4 = 3 ∧ S7.1 (V7 z4 3) = 20 ∧ 0 ≤ x4 ∧ x4 < S7.2.1 (V7 z4 3) ∧ ((V7 (V7 z4 3) x4) ≠ (-1) → Q 1 S7 V7) ∧ (¬ ((V7 (V7 z4 3) x4) ≠ (-1)) → Q 0 S7 V7)) ∧ (¬ (z4 ≠ 0) → S7.1 z1 = 4 ∧ S7.1 (V7 z1 6) = 20 ∧ 0 ≤ x4 ∧ x4 < S7.2.1 (V7 z1 6) ∧ ((V7 (V7 z1 6) x4) ≠ (-1) → Q 1 S7 V7) ∧ (¬ ((V7 (V7 z1 6) x4) ≠ (-1)) → Q 0 S7 V7))) ∧ (¬ (z7 ≠ 0) → Q (-1) S7 V7))) ∧ (¬ (z4 ≠ 0) → (x3 = (-1) → S4.1 x0 = 12 ∧ CT l G bX11_hasAct d mc4 ms4 [vr x0, vi x1, vi x4] S4 V4 (fun z14 S14 V14 mc14 ms14 => (z14 ≠ 0 → (z4 ≠ 0 → S14.1 z4 = 3 ∧ S14.1 (V14 z4 3) = 20 ∧ 0 ≤ x4 ∧ x4 < S14.2.1 (V14 z4 3) ∧ ((V14 (V14 z4 3) x4) ≠ (-1) → Q 1 S14 V14) ∧ (¬ ((V14 (V14 z4 3) x4) ≠ (-1)) → Q 0 S14 V14)) ∧ (¬ (z4 ≠ 0) → S14.1 z1 = 4 ∧ S14.1 (V14 z1 6) = 20 ∧ 0 ≤ x4 ∧ x4 < S14.2.1 (V14 z1 6) ∧ ((V14 (V14 z1 6) x4) ≠ (-1) → Q 1 S14 V14) ∧ (¬ ((V14 (V14 z1 6) x4) ≠ (-1)) → Q 0 S14 V14))) ∧ (¬ (z14 ≠ 0) → Q (-1) S14 V14))) ∧ (¬ (x3 = (-1)) → Q (-1) S4 V4)))) ∧ (¬ (z1 ≠ 0) → Q (-1) S1 V1))) : XJ l G bX11_body Q d 0 [vr x0, vi x1, vi x2, vi x3, vi x4, vu, vu, vu] [] S V mc ms := by
  refine X_aload_n dX11_body_0 rfl ?_
  refine X_iload_n dX11_body_1 rfl ?_
  refine X_iload_n dX11_body_2 rfl ?_
  refine X_invV (ci := 11) (as := [vi x1, vi x2]) (st := []) okX11_enumOf dX11_body_3 km_RX11_106 rfl rfl (Nat.le_of_ble_eq_true rfl) rfl rfl h.1 (CT.imp h.2 (fun z1 S1 V1 mc1 ms1 hc2 => ?_))
  refine X_astore dX11_body_6 (by decide) rfl ?_
  refine X_aload dX11_body_8 rfl ?_
  refine X_ifnonnull dX11_body_10 (tgt := 15) rfl (fun c3 => ?_) (fun c3 => ?_)
  · refine X_aload dX11_body_15 rfl ?_
    refine X_iload_n dX11_body_17 rfl ?_
    refine X_invV (ci := 3) (as := [vi x3]) (st := []) okX3_constantAt dX11_body_18 km_RX11_143 rfl rfl (Nat.le_of_ble_eq_true rfl) rfl rfl (hc2.1 c3).1 (CT.imp (hc2.1 c3).2 (fun z4 S4 V4 mc4 ms4 hc5 => ?_))
    refine X_astore dX11_body_21 (by decide) rfl ?_
    refine X_aload dX11_body_23 rfl ?_
    refine X_ifnonnull dX11_body_25 (tgt := 35) rfl (fun c6 => ?_) (fun c6 => ?_)
    · refine X_aload_n dX11_body_35 rfl ?_
      refine X_iload_n dX11_body_36 rfl ?_
      refine X_iload dX11_body_37 rfl ?_
      refine X_invV (ci := 11) (as := [vi x1, vi x4]) (st := []) okX11_hasAct dX11_body_39 km_RX11_150 rfl rfl (Nat.le_of_ble_eq_true rfl) rfl rfl (hc5.1 c6).1 (CT.imp (hc5.1 c6).2 (fun z7 S7 V7 mc7 ms7 hc8 => ?_))
      refine X_if_ne dX11_body_42 (tgt := 47) rfl (fun c9 => ?_) (fun c9 => ?_)
      · refine X_aload dX11_body_47 rfl ?_
        refine X_ifnonnull dX11_body_49 (tgt := 60) rfl (fun c10 => ?_) (fun c10 => ?_)
        · refine X_aload dX11_body_60 rfl ?_
          refine X_getfield (ci := 2) (k := 3) (v := vr (V7 z4 3)) dX11_body_62 rfl (by decide) kf_RX11_158 rfl ((hc8.1 c9).1 c10).1 ?_
          refine X_astore dX11_body_65 (by decide) rfl ?_
          refine X_aload dX11_body_67 rfl ?_
          refine X_iload dX11_body_69 rfl ?_
          refine X_iaload dX11_body_71 ((hc8.1 c9).1 c10).2.1 ((hc8.1 c9).1 c10).2.2.1 ((hc8.1 c9).1 c10).2.2.2.1 ?_
          refine X_iconst dX11_body_72 (by decide) ?_
          refine X_icmp_ne dX11_body_73 (tgt := 80) rfl (fun c11 => ?_) (fun c11 => ?_)
          · refine X_iconst dX11_body_80 (by decide) ?_
            exact X_ret (z := 1) dX11_body_81 rfl (fun hv => vok_h hv) (((hc8.1 c9).1 c10).2.2.2.2.1 c11)
          · refine X_iconst dX11_body_76 (by decide) ?_
            refine X_goto dX11_body_77 (tgt := 81) rfl ?_
            exact X_ret (z := 0) dX11_body_81 rfl (fun hv => vok_h hv) (((hc8.1 c9).1 c10).2.2.2.2.2 c11)
        · refine X_aload dX11_body_52 rfl ?_
          refine X_getfield (ci := 3) (k := 6) (v := vr (V7 z1 6)) dX11_body_54 rfl (by decide) kf_RX11_154 rfl ((hc8.1 c9).2 c10).1 ?_
          refine X_goto dX11_body_57 (tgt := 65) rfl ?_
          refine X_astore dX11_body_65 (by decide) rfl ?_
          refine X_aload dX11_body_67 rfl ?_
          refine X_iload dX11_body_69 rfl ?_
          refine X_iaload dX11_body_71 ((hc8.1 c9).2 c10).2.1 ((hc8.1 c9).2 c10).2.2.1 ((hc8.1 c9).2 c10).2.2.2.1 ?_
          refine X_iconst dX11_body_72 (by decide) ?_
          refine X_icmp_ne dX11_body_73 (tgt := 80) rfl (fun c12 => ?_) (fun c12 => ?_)
          · refine X_iconst dX11_body_80 (by decide) ?_
            exact X_ret (z := 1) dX11_body_81 rfl (fun hv => vok_h hv) (((hc8.1 c9).2 c10).2.2.2.2.1 c12)
          · refine X_iconst dX11_body_76 (by decide) ?_
            refine X_goto dX11_body_77 (tgt := 81) rfl ?_
            exact X_ret (z := 0) dX11_body_81 rfl (fun hv => vok_h hv) (((hc8.1 c9).2 c10).2.2.2.2.2 c12)
      · refine X_iconst dX11_body_45 (by decide) ?_
        exact X_ret (z := (-1)) dX11_body_46 rfl (fun hv => vok_h hv) (hc8.2 c9)
    · refine X_iload_n dX11_body_28 rfl ?_
      refine X_iconst dX11_body_29 (by decide) ?_
      refine X_icmp_eq dX11_body_30 (tgt := 35) rfl (fun c13 => ?_) (fun c13 => ?_)
      · refine X_aload_n dX11_body_35 rfl ?_
        refine X_iload_n dX11_body_36 rfl ?_
        refine X_iload dX11_body_37 rfl ?_
        refine X_invV (ci := 11) (as := [vi x1, vi x4]) (st := []) okX11_hasAct dX11_body_39 km_RX11_150 rfl rfl (Nat.le_of_ble_eq_true rfl) rfl rfl ((hc5.2 c6).1 c13).1 (CT.imp ((hc5.2 c6).1 c13).2 (fun z14 S14 V14 mc14 ms14 hc15 => ?_))
        refine X_if_ne dX11_body_42 (tgt := 47) rfl (fun c16 => ?_) (fun c16 => ?_)
        · refine X_aload dX11_body_47 rfl ?_
          refine X_ifnonnull dX11_body_49 (tgt := 60) rfl (fun c17 => ?_) (fun c17 => ?_)
          · refine X_aload dX11_body_60 rfl ?_
            refine X_getfield (ci := 2) (k := 3) (v := vr (V14 z4 3)) dX11_body_62 rfl (by decide) kf_RX11_158 rfl ((hc15.1 c16).1 c17).1 ?_
            refine X_astore dX11_body_65 (by decide) rfl ?_
            refine X_aload dX11_body_67 rfl ?_
            refine X_iload dX11_body_69 rfl ?_
            refine X_iaload dX11_body_71 ((hc15.1 c16).1 c17).2.1 ((hc15.1 c16).1 c17).2.2.1 ((hc15.1 c16).1 c17).2.2.2.1 ?_
            refine X_iconst dX11_body_72 (by decide) ?_
            refine X_icmp_ne dX11_body_73 (tgt := 80) rfl (fun c18 => ?_) (fun c18 => ?_)
            · refine X_iconst dX11_body_80 (by decide) ?_
              exact X_ret (z := 1) dX11_body_81 rfl (fun hv => vok_h hv) (((hc15.1 c16).1 c17).2.2.2.2.1 c18)
            · refine X_iconst dX11_body_76 (by decide) ?_
              refine X_goto dX11_body_77 (tgt := 81) rfl ?_
              exact X_ret (z := 0) dX11_body_81 rfl (fun hv => vok_h hv) (((hc15.1 c16).1 c17).2.2.2.2.2 c18)
          · refine X_aload dX11_body_52 rfl ?_
            refine X_getfield (ci := 3) (k := 6) (v := vr (V14 z1 6)) dX11_body_54 rfl (by decide) kf_RX11_154 rfl ((hc15.1 c16).2 c17).1 ?_
            refine X_goto dX11_body_57 (tgt := 65) rfl ?_
            refine X_astore dX11_body_65 (by decide) rfl ?_
            refine X_aload dX11_body_67 rfl ?_
            refine X_iload dX11_body_69 rfl ?_
            refine X_iaload dX11_body_71 ((hc15.1 c16).2 c17).2.1 ((hc15.1 c16).2 c17).2.2.1 ((hc15.1 c16).2 c17).2.2.2.1 ?_
            refine X_iconst dX11_body_72 (by decide) ?_
            refine X_icmp_ne dX11_body_73 (tgt := 80) rfl (fun c19 => ?_) (fun c19 => ?_)
            · refine X_iconst dX11_body_80 (by decide) ?_
              exact X_ret (z := 1) dX11_body_81 rfl (fun hv => vok_h hv) (((hc15.1 c16).2 c17).2.2.2.2.1 c19)
            · refine X_iconst dX11_body_76 (by decide) ?_
              refine X_goto dX11_body_77 (tgt := 81) rfl ?_
              exact X_ret (z := 0) dX11_body_81 rfl (fun hv => vok_h hv) (((hc15.1 c16).2 c17).2.2.2.2.2 c19)
        · refine X_iconst dX11_body_45 (by decide) ?_
          exact X_ret (z := (-1)) dX11_body_46 rfl (fun hv => vok_h hv) (hc15.2 c16)
      · refine X_iconst dX11_body_33 (by decide) ?_
        exact X_ret (z := (-1)) dX11_body_34 rfl (fun hv => vok_h hv) ((hc5.2 c6).2 c13)
  · refine X_iconst dX11_body_13 (by decide) ?_
    exact X_ret (z := (-1)) dX11_body_14 rfl (fun hv => vok_h hv) (hc2.2 c3)
theorem qX11_body {l : Launch} {G : GT} {Q : Int → Sh → Mem → Prop} {d : Nat} {S : Sh} {V : Mem} {mc ms : Nat} {x0 x1 x2 x3 x4 : Int} (h : 0 ≤ x0 → inI x1 → inI x2 → inI x3 → inI x4 → XJ l G bX11_body Q d 0 [vr x0, vi x1, vi x2, vi x3, vi x4, vu, vu, vu] [] S V mc ms) : Ct l G bX11_body Q d mc ms [vr x0, vi x1, vi x2, vi x3, vi x4] S V := Ct.of okX11_body.1 trivial (Nat.le_of_ble_eq_true rfl) (fun hv => h (hv _ (List.mem_of_getElem? (i := 0) rfl)) (hv _ (List.mem_of_getElem? (i := 1) rfl)) (hv _ (List.mem_of_getElem? (i := 2) rfl)) (hv _ (List.mem_of_getElem? (i := 3) rfl)) (hv _ (List.mem_of_getElem? (i := 4) rfl)))
set_option maxRecDepth 10000 in
theorem vX11_use_0 {l : Launch} {G : GT} {Q : Int → Sh → Mem → Prop} {d : Nat} {S : Sh} {V : Mem} {mc ms : Nat} {x0 x1 x2 : Int} (h : S.1 x0 = 12 ∧ CT l G bX11_enumOf d mc ms [vr x0, vi x1, vi x2] S V (fun z1 S1 V1 mc1 ms1 => (z1 ≠ 0 → S1.1 x0 = 12 ∧ CT l G bX11_usedWell d mc1 ms1 [vr x0, vi x1, vi x2] S1 V1 (fun z4 S4 V4 mc4 ms4 => (z4 = 0 → Q (-3) S4 V4) ∧ (¬ (z4 = 0) → Q 0 S4 V4))) ∧ (¬ (z1 ≠ 0) → Q (-1) S1 V1))) : XJ l G bX11_use Q d 0 [vr x0, vi x1, vi x2] [] S V mc ms := by
  refine X_aload_n dX11_use_0 rfl ?_
  refine X_iload_n dX11_use_1 rfl ?_
  refine X_iload_n dX11_use_2 rfl ?_
  refine X_invV (ci := 11) (as := [vi x1, vi x2]) (st := []) okX11_enumOf dX11_use_3 km_RX11_106 rfl rfl (Nat.le_of_ble_eq_true rfl) rfl rfl h.1 (CT.imp h.2 (fun z1 S1 V1 mc1 ms1 hc2 => ?_))
  refine X_ifnonnull dX11_use_6 (tgt := 11) rfl (fun c3 => ?_) (fun c3 => ?_)
  · refine X_aload_n dX11_use_11 rfl ?_
    refine X_iload_n dX11_use_12 rfl ?_
    refine X_iload_n dX11_use_13 rfl ?_
    refine X_invV (ci := 11) (as := [vi x1, vi x2]) (st := []) okX11_usedWell dX11_use_14 km_RX11_159 rfl rfl (Nat.le_of_ble_eq_true rfl) rfl rfl (hc2.1 c3).1 (CT.imp (hc2.1 c3).2 (fun z4 S4 V4 mc4 ms4 hc5 => ?_))
    refine X_if_eq dX11_use_17 (tgt := 24) rfl (fun c6 => ?_) (fun c6 => ?_)
    · refine X_bipush dX11_use_24 (by decide) (by decide) ?_
      exact X_ret (z := (-3)) dX11_use_26 rfl (fun hv => vok_h hv) (hc5.1 c6)
    · refine X_iconst dX11_use_20 (by decide) ?_
      refine X_goto dX11_use_21 (tgt := 26) rfl ?_
      exact X_ret (z := 0) dX11_use_26 rfl (fun hv => vok_h hv) (hc5.2 c6)
  · refine X_iconst dX11_use_9 (by decide) ?_
    exact X_ret (z := (-1)) dX11_use_10 rfl (fun hv => vok_h hv) (hc2.2 c3)
theorem qX11_use {l : Launch} {G : GT} {Q : Int → Sh → Mem → Prop} {d : Nat} {S : Sh} {V : Mem} {mc ms : Nat} {x0 x1 x2 : Int} (h : 0 ≤ x0 → inI x1 → inI x2 → XJ l G bX11_use Q d 0 [vr x0, vi x1, vi x2] [] S V mc ms) : Ct l G bX11_use Q d mc ms [vr x0, vi x1, vi x2] S V := Ct.of okX11_use.1 trivial (Nat.le_of_ble_eq_true rfl) (fun hv => h (hv _ (List.mem_of_getElem? (i := 0) rfl)) (hv _ (List.mem_of_getElem? (i := 1) rfl)) (hv _ (List.mem_of_getElem? (i := 2) rfl)))
set_option maxRecDepth 10000 in
theorem vX11_argument_0 {l : Launch} {G : GT} {Q : Int → Sh → Mem → Prop} {d : Nat} {S : Sh} {V : Mem} {mc ms : Nat} {x0 x1 x2 x3 : Int} (h : S.1 x0 = 12 ∧ CT l G bX11_enumOf d mc ms [vr x0, vi x1, vi x2] S V (fun z1 S1 V1 mc1 ms1 => (z1 ≠ 0 → S1.1 z1 = 4 ∧ CT l G bX3_constantAt d mc1 ms1 [vr z1, vi x3] S1 V1 (fun z4 S4 V4 mc4 ms4 => (z4 ≠ 0 → S4.1 x0 = 12 ∧ CT l G bX11_usedWell d mc4 ms4 [vr x0, vi x1, vi x2] S4 V4 (fun z7 S7 V7 mc7 ms7 => (z7 ≠ 0 → S7.1 z4 = 3 ∧ S7.1 x0 = 12 ∧ Q 0 S7 (up V7 x0 8 (V7 z4 2))) ∧ (¬ (z7 ≠ 0) → Q (-3) S7 V7))) ∧ (¬ (z4 ≠ 0) → Q (-1) S4 V4))) ∧ (¬ (z1 ≠ 0) → Q (-1) S1 V1))) : XJ l G bX11_argument Q d 0 [vr x0, vi x1, vi x2, vi x3, vu, vu] [] S V mc ms := by
  refine X_aload_n dX11_argument_0 rfl ?_
  refine X_iload_n dX11_argument_1 rfl ?_
  refine X_iload_n dX11_argument_2 rfl ?_
  refine X_invV (ci := 11) (as := [vi x1, vi x2]) (st := []) okX11_enumOf dX11_argument_3 km_RX11_106 rfl rfl (Nat.le_of_ble_eq_true rfl) rfl rfl h.1 (CT.imp h.2 (fun z1 S1 V1 mc1 ms1 hc2 => ?_))
  refine X_astore dX11_argument_6 (by decide) rfl ?_
  refine X_aload dX11_argument_8 rfl ?_
  refine X_ifnonnull dX11_argument_10 (tgt := 17) rfl (fun c3 => ?_) (fun c3 => ?_)
  · refine X_aload dX11_argument_17 rfl ?_
    refine X_iload_n dX11_argument_19 rfl ?_
    refine X_invV (ci := 3) (as := [vi x3]) (st := []) okX3_constantAt dX11_argument_20 km_RX11_143 rfl rfl (Nat.le_of_ble_eq_true rfl) rfl rfl (hc2.1 c3).1 (CT.imp (hc2.1 c3).2 (fun z4 S4 V4 mc4 ms4 hc5 => ?_))
    refine X_astore dX11_argument_23 (by decide) rfl ?_
    refine X_aload dX11_argument_25 rfl ?_
    refine X_ifnonnull dX11_argument_27 (tgt := 32) rfl (fun c6 => ?_) (fun c6 => ?_)
    · refine X_aload_n dX11_argument_32 rfl ?_
      refine X_iload_n dX11_argument_33 rfl ?_
      refine X_iload_n dX11_argument_34 rfl ?_
      refine X_invV (ci := 11) (as := [vi x1, vi x2]) (st := []) okX11_usedWell dX11_argument_35 km_RX11_159 rfl rfl (Nat.le_of_ble_eq_true rfl) rfl rfl (hc5.1 c6).1 (CT.imp (hc5.1 c6).2 (fun z7 S7 V7 mc7 ms7 hc8 => ?_))
      refine X_if_ne dX11_argument_38 (tgt := 44) rfl (fun c9 => ?_) (fun c9 => ?_)
      · refine X_aload_n dX11_argument_44 rfl ?_
        refine X_aload dX11_argument_45 rfl ?_
        refine X_getfield (ci := 2) (k := 2) (v := vi (V7 z4 2)) dX11_argument_47 rfl (by decide) kf_RX11_162 rfl (hc8.1 c9).1 ?_
        refine X_putfield (ci := 11) (k := 8) (z := (V7 z4 2)) dX11_argument_50 rfl (by decide) kf_RX11_165 (Or.inl rfl) (Or.inl rfl) rfl (fun hv => hv) (hc8.1 c9).2.1 ?_
        refine X_iconst dX11_argument_53 (by decide) ?_
        exact X_ret (z := 0) dX11_argument_54 rfl (fun hv => vok_h hv) (hc8.1 c9).2.2
      · refine X_bipush dX11_argument_41 (by decide) (by decide) ?_
        exact X_ret (z := (-3)) dX11_argument_43 rfl (fun hv => vok_h hv) (hc8.2 c9)
    · refine X_iconst dX11_argument_30 (by decide) ?_
      exact X_ret (z := (-1)) dX11_argument_31 rfl (fun hv => vok_h hv) (hc5.2 c6)
  · refine X_aconst_null dX11_argument_13 ?_
    refine X_goto dX11_argument_14 (tgt := 23) rfl ?_
    refine X_astore dX11_argument_23 (by decide) rfl ?_
    refine X_aload dX11_argument_25 rfl ?_
    refine X_ifnonnull dX11_argument_27 (tgt := 32) rfl (fun c => absurd rfl c) (fun _ => ?_)
    refine X_iconst dX11_argument_30 (by decide) ?_
    exact X_ret (z := (-1)) dX11_argument_31 rfl (fun hv => vok_h hv) (hc2.2 c3)
theorem qX11_argument {l : Launch} {G : GT} {Q : Int → Sh → Mem → Prop} {d : Nat} {S : Sh} {V : Mem} {mc ms : Nat} {x0 x1 x2 x3 : Int} (h : 0 ≤ x0 → inI x1 → inI x2 → inI x3 → XJ l G bX11_argument Q d 0 [vr x0, vi x1, vi x2, vi x3, vu, vu] [] S V mc ms) : Ct l G bX11_argument Q d mc ms [vr x0, vi x1, vi x2, vi x3] S V := Ct.of okX11_argument.1 trivial (Nat.le_of_ble_eq_true rfl) (fun hv => h (hv _ (List.mem_of_getElem? (i := 0) rfl)) (hv _ (List.mem_of_getElem? (i := 1) rfl)) (hv _ (List.mem_of_getElem? (i := 2) rfl)) (hv _ (List.mem_of_getElem? (i := 3) rfl)))
set_option maxRecDepth 10000 in
theorem vX11_act_0 {l : Launch} {G : GT} {Q : Int → Sh → Mem → Prop} {d : Nat} {S : Sh} {V : Mem} {mc ms : Nat} {x0 x1 x2 x3 x4 : Int} (h : S.1 x0 = 12 ∧ CT l G bX11_enumOf d mc ms [vr x0, vi x1, vi x2] S V (fun z1 S1 V1 mc1 ms1 => (z1 = 0 → Q (-1) S1 V1) ∧ (¬ (z1 = 0) → S1.1 z1 = 4 ∧ CT l G bX3_constantAt d mc1 ms1 [vr z1, vi x3] S1 V1 (fun z4 S4 V4 mc4 ms4 => (z4 = 0 → Q (-1) S4 V4) ∧ (¬ (z4 = 0) → S4.1 x0 = 12 ∧ CT l G bX11_hasAct d mc4 ms4 [vr x0, vi x1, vi x4] S4 V4 (fun z7 S7 V7 mc7 ms7 => (z7 ≠ 0 → S7.1 x0 = 12 ∧ CT l G bX11_usedWell d mc7 ms7 [vr x0, vi x1, vi x2] S7 V7 (fun z10 S10 V10 mc10 ms10 => (z10 ≠ 0 → S10.1 x0 = 12 ∧ S10.1 (V10 x0 4) = 11 ∧ CT l G bX10_perform d mc10 ms10 [vr (V10 x0 4), vr z1, vi x3, vi x4] S10 V10 (fun z13 S13 V13 mc13 ms13 => S13.1 x0 = 12 ∧ CT l G bX11_giveOut d mc13 ms13 [vr x0, vi z13] S13 V13 (fun z15 S15 V15 mc15 ms15 => Q z15 S15 V15))) ∧ (¬ (z10 ≠ 0) → Q (-3) S10 V10))) ∧ (¬ (z7 ≠ 0) → Q (-1) S7 V7))))))) : XJ l G bX11_act Q d 0 [vr x0, vi x1, vi x2, vi x3, vi x4, vu] [] S V mc ms := by
  refine X_aload_n dX11_act_0 rfl ?_
  refine X_iload_n dX11_act_1 rfl ?_
  refine X_iload_n dX11_act_2 rfl ?_
  refine X_invV (ci := 11) (as := [vi x1, vi x2]) (st := []) okX11_enumOf dX11_act_3 km_RX11_106 rfl rfl (Nat.le_of_ble_eq_true rfl) rfl rfl h.1 (CT.imp h.2 (fun z1 S1 V1 mc1 ms1 hc2 => ?_))
  refine X_astore dX11_act_6 (by decide) rfl ?_
  refine X_aload dX11_act_8 rfl ?_
  refine X_ifnull dX11_act_10 (tgt := 32) rfl (fun c3 => ?_) (fun c3 => ?_)
  · refine X_iconst dX11_act_32 (by decide) ?_
    exact X_ret (z := (-1)) dX11_act_33 rfl (fun hv => vok_h hv) (hc2.1 c3)
  · refine X_aload dX11_act_13 rfl ?_
    refine X_iload_n dX11_act_15 rfl ?_
    refine X_invV (ci := 3) (as := [vi x3]) (st := []) okX3_constantAt dX11_act_16 km_RX11_143 rfl rfl (Nat.le_of_ble_eq_true rfl) rfl rfl (hc2.2 c3).1 (CT.imp (hc2.2 c3).2 (fun z4 S4 V4 mc4 ms4 hc5 => ?_))
    refine X_ifnull dX11_act_19 (tgt := 32) rfl (fun c6 => ?_) (fun c6 => ?_)
    · refine X_iconst dX11_act_32 (by decide) ?_
      exact X_ret (z := (-1)) dX11_act_33 rfl (fun hv => vok_h hv) (hc5.1 c6)
    · refine X_aload_n dX11_act_22 rfl ?_
      refine X_iload_n dX11_act_23 rfl ?_
      refine X_iload dX11_act_24 rfl ?_
      refine X_invV (ci := 11) (as := [vi x1, vi x4]) (st := []) okX11_hasAct dX11_act_26 km_RX11_150 rfl rfl (Nat.le_of_ble_eq_true rfl) rfl rfl (hc5.2 c6).1 (CT.imp (hc5.2 c6).2 (fun z7 S7 V7 mc7 ms7 hc8 => ?_))
      refine X_if_ne dX11_act_29 (tgt := 34) rfl (fun c9 => ?_) (fun c9 => ?_)
      · refine X_aload_n dX11_act_34 rfl ?_
        refine X_iload_n dX11_act_35 rfl ?_
        refine X_iload_n dX11_act_36 rfl ?_
        refine X_invV (ci := 11) (as := [vi x1, vi x2]) (st := []) okX11_usedWell dX11_act_37 km_RX11_159 rfl rfl (Nat.le_of_ble_eq_true rfl) rfl rfl (hc8.1 c9).1 (CT.imp (hc8.1 c9).2 (fun z10 S10 V10 mc10 ms10 hc11 => ?_))
        refine X_if_ne dX11_act_40 (tgt := 46) rfl (fun c12 => ?_) (fun c12 => ?_)
        · refine X_aload_n dX11_act_46 rfl ?_
          refine X_aload_n dX11_act_47 rfl ?_
          refine X_getfield (ci := 11) (k := 4) (v := vr (V10 x0 4)) dX11_act_48 rfl (by decide) kf_RX11_32 rfl (hc11.1 c12).1 ?_
          refine X_aload dX11_act_51 rfl ?_
          refine X_iload_n dX11_act_53 rfl ?_
          refine X_iload dX11_act_54 rfl ?_
          refine X_invV (ci := 10) (as := [vr z1, vi x3, vi x4]) (st := [vr x0]) okX10_perform dX11_act_56 km_RX11_168 rfl rfl (Nat.le_of_ble_eq_true rfl) rfl rfl (hc11.1 c12).2.1 (CT.imp (hc11.1 c12).2.2 (fun z13 S13 V13 mc13 ms13 hc14 => ?_))
          refine X_invV (ci := 11) (as := [vi z13]) (st := []) okX11_giveOut dX11_act_59 km_RX11_172 rfl rfl (Nat.le_of_ble_eq_true rfl) rfl rfl hc14.1 (CT.imp hc14.2 (fun z15 S15 V15 mc15 ms15 hc16 => ?_))
          exact X_ret (z := z15) dX11_act_62 rfl (fun hv => vok_h hv) hc16
        · refine X_bipush dX11_act_43 (by decide) (by decide) ?_
          exact X_ret (z := (-3)) dX11_act_45 rfl (fun hv => vok_h hv) (hc11.2 c12)
      · refine X_iconst dX11_act_32 (by decide) ?_
        exact X_ret (z := (-1)) dX11_act_33 rfl (fun hv => vok_h hv) (hc8.2 c9)
theorem qX11_act {l : Launch} {G : GT} {Q : Int → Sh → Mem → Prop} {d : Nat} {S : Sh} {V : Mem} {mc ms : Nat} {x0 x1 x2 x3 x4 : Int} (h : 0 ≤ x0 → inI x1 → inI x2 → inI x3 → inI x4 → XJ l G bX11_act Q d 0 [vr x0, vi x1, vi x2, vi x3, vi x4, vu] [] S V mc ms) : Ct l G bX11_act Q d mc ms [vr x0, vi x1, vi x2, vi x3, vi x4] S V := Ct.of okX11_act.1 trivial (Nat.le_of_ble_eq_true rfl) (fun hv => h (hv _ (List.mem_of_getElem? (i := 0) rfl)) (hv _ (List.mem_of_getElem? (i := 1) rfl)) (hv _ (List.mem_of_getElem? (i := 2) rfl)) (hv _ (List.mem_of_getElem? (i := 3) rfl)) (hv _ (List.mem_of_getElem? (i := 4) rfl)))
set_option maxRecDepth 10000 in
theorem vX11_entry_0 {l : Launch} {G : GT} {Q : Int → Sh → Mem → Prop} {d : Nat} {S : Sh} {V : Mem} {mc ms : Nat} {x0 x1 x2 x3 x4 : Int} (h : S.1 x0 = 12 ∧ CT l G bX11_enumOf d mc ms [vr x0, vi x1, vi x2] S V (fun z1 S1 V1 mc1 ms1 => (z1 ≠ 0 → S1.1 z1 = 4 ∧ CT l G bX3_tableAt d mc1 ms1 [vr z1, vi x3] S1 V1 (fun z4 S4 V4 mc4 ms4 => (z4 = 0 → Q (-1) S4 V4) ∧ (¬ (z4 = 0) → (x4 < 0 → Q (-1) S4 V4) ∧ (¬ (x4 < 0) → S4.1 z4 = 9 ∧ (x4 < (V4 z4 3) → S4.1 x0 = 12 ∧ CT l G bX11_usedWell d mc4 ms4 [vr x0, vi x1, vi x2] S4 V4 (fun z9 S9 V9 mc9 ms9 => (z9 ≠ 0 → S9.1 z4 = 9 ∧ S9.1 (V9 z4 2) = 20 ∧ 0 ≤ x4 ∧ x4 < S9.2.1 (V9 z4 2) ∧ S9.1 x0 = 12 ∧ Q 0 S9 (up V9 x0 8 (V9 (V9 z4 2) x4))) ∧ (¬ (z9 ≠ 0) → Q (-3) S9 V9))) ∧ (¬ (x4 < (V4 z4 3)) → Q (-1) S4 V4))))) ∧ (¬ (z1 ≠ 0) → Q (-1) S1 V1))) : XJ l G bX11_entry Q d 0 [vr x0, vi x1, vi x2, vi x3, vi x4, vu, vu] [] S V mc ms := by
  refine X_aload_n dX11_entry_0 rfl ?_
  refine X_iload_n dX11_entry_1 rfl ?_
  refine X_iload_n dX11_entry_2 rfl ?_
  refine X_invV (ci := 11) (as := [vi x1, vi x2]) (st := []) okX11_enumOf dX11_entry_3 km_RX11_106 rfl rfl (Nat.le_of_ble_eq_true rfl) rfl rfl h.1 (CT.imp h.2 (fun z1 S1 V1 mc1 ms1 hc2 => ?_))
  refine X_astore dX11_entry_6 (by decide) rfl ?_
  refine X_aload dX11_entry_8 rfl ?_
  refine X_ifnonnull dX11_entry_10 (tgt := 17) rfl (fun c3 => ?_) (fun c3 => ?_)
  · refine X_aload dX11_entry_17 rfl ?_
    refine X_iload_n dX11_entry_19 rfl ?_
    refine X_invV (ci := 3) (as := [vi x3]) (st := []) okX3_tableAt dX11_entry_20 km_RX11_175 rfl rfl (Nat.le_of_ble_eq_true rfl) rfl rfl (hc2.1 c3).1 (CT.imp (hc2.1 c3).2 (fun z4 S4 V4 mc4 ms4 hc5 => ?_))
    refine X_astore dX11_entry_23 (by decide) rfl ?_
    refine X_aload dX11_entry_25 rfl ?_
    refine X_ifnull dX11_entry_27 (tgt := 45) rfl (fun c6 => ?_) (fun c6 => ?_)
    · refine X_iconst dX11_entry_45 (by decide) ?_
      exact X_ret (z := (-1)) dX11_entry_46 rfl (fun hv => vok_h hv) (hc5.1 c6)
    · refine X_iload dX11_entry_30 rfl ?_
      refine X_if_lt dX11_entry_32 (tgt := 45) rfl (fun c7 => ?_) (fun c7 => ?_)
      · refine X_iconst dX11_entry_45 (by decide) ?_
        exact X_ret (z := (-1)) dX11_entry_46 rfl (fun hv => vok_h hv) ((hc5.2 c6).1 c7)
      · refine X_iload dX11_entry_35 rfl ?_
        refine X_aload dX11_entry_37 rfl ?_
        refine X_getfield (ci := 8) (k := 3) (v := vi (V4 z4 3)) dX11_entry_39 rfl (by decide) kf_RX11_179 rfl ((hc5.2 c6).2 c7).1 ?_
        refine X_icmp_lt dX11_entry_42 (tgt := 47) rfl (fun c8 => ?_) (fun c8 => ?_)
        · refine X_aload_n dX11_entry_47 rfl ?_
          refine X_iload_n dX11_entry_48 rfl ?_
          refine X_iload_n dX11_entry_49 rfl ?_
          refine X_invV (ci := 11) (as := [vi x1, vi x2]) (st := []) okX11_usedWell dX11_entry_50 km_RX11_159 rfl rfl (Nat.le_of_ble_eq_true rfl) rfl rfl (((hc5.2 c6).2 c7).2.1 c8).1 (CT.imp (((hc5.2 c6).2 c7).2.1 c8).2 (fun z9 S9 V9 mc9 ms9 hc10 => ?_))
          refine X_if_ne dX11_entry_53 (tgt := 59) rfl (fun c11 => ?_) (fun c11 => ?_)
          · refine X_aload_n dX11_entry_59 rfl ?_
            refine X_aload dX11_entry_60 rfl ?_
            refine X_getfield (ci := 8) (k := 2) (v := vr (V9 z4 2)) dX11_entry_62 rfl (by decide) kf_RX11_184 rfl (hc10.1 c11).1 ?_
            refine X_iload dX11_entry_65 rfl ?_
            refine X_iaload dX11_entry_67 (hc10.1 c11).2.1 (hc10.1 c11).2.2.1 (hc10.1 c11).2.2.2.1 ?_
            refine X_putfield (ci := 11) (k := 8) (z := (V9 (V9 z4 2) x4)) dX11_entry_68 rfl (by decide) kf_RX11_165 (Or.inl rfl) (Or.inl rfl) rfl (fun hv => hv) (hc10.1 c11).2.2.2.2.1 ?_
            refine X_iconst dX11_entry_71 (by decide) ?_
            exact X_ret (z := 0) dX11_entry_72 rfl (fun hv => vok_h hv) (hc10.1 c11).2.2.2.2.2
          · refine X_bipush dX11_entry_56 (by decide) (by decide) ?_
            exact X_ret (z := (-3)) dX11_entry_58 rfl (fun hv => vok_h hv) (hc10.2 c11)
        · refine X_iconst dX11_entry_45 (by decide) ?_
          exact X_ret (z := (-1)) dX11_entry_46 rfl (fun hv => vok_h hv) (((hc5.2 c6).2 c7).2.2 c8)
  · refine X_aconst_null dX11_entry_13 ?_
    refine X_goto dX11_entry_14 (tgt := 23) rfl ?_
    refine X_astore dX11_entry_23 (by decide) rfl ?_
    refine X_aload dX11_entry_25 rfl ?_
    refine X_ifnull dX11_entry_27 (tgt := 45) rfl (fun _ => ?_) (fun c => absurd rfl c)
    refine X_iconst dX11_entry_45 (by decide) ?_
    exact X_ret (z := (-1)) dX11_entry_46 rfl (fun hv => vok_h hv) (hc2.2 c3)
theorem qX11_entry {l : Launch} {G : GT} {Q : Int → Sh → Mem → Prop} {d : Nat} {S : Sh} {V : Mem} {mc ms : Nat} {x0 x1 x2 x3 x4 : Int} (h : 0 ≤ x0 → inI x1 → inI x2 → inI x3 → inI x4 → XJ l G bX11_entry Q d 0 [vr x0, vi x1, vi x2, vi x3, vi x4, vu, vu] [] S V mc ms) : Ct l G bX11_entry Q d mc ms [vr x0, vi x1, vi x2, vi x3, vi x4] S V := Ct.of okX11_entry.1 trivial (Nat.le_of_ble_eq_true rfl) (fun hv => h (hv _ (List.mem_of_getElem? (i := 0) rfl)) (hv _ (List.mem_of_getElem? (i := 1) rfl)) (hv _ (List.mem_of_getElem? (i := 2) rfl)) (hv _ (List.mem_of_getElem? (i := 3) rfl)) (hv _ (List.mem_of_getElem? (i := 4) rfl)))
set_option maxRecDepth 10000 in
theorem vX11_holder_0 {l : Launch} {G : GT} {Q : Int → Sh → Mem → Prop} {d : Nat} {S : Sh} {V : Mem} {mc ms : Nat} {x0 x1 x2 x3 : Int} (h : S.1 x0 = 12 ∧ CT l G bX11_enumOf d mc ms [vr x0, vi x1, vi x2] S V (fun z1 S1 V1 mc1 ms1 => (z1 = 0 → Q (-1) S1 V1) ∧ (¬ (z1 = 0) → (x3 < 0 → Q (-1) S1 V1) ∧ (¬ (x3 < 0) → S1.1 z1 = 4 ∧ (x3 < (V1 z1 14) → -2147483648 ≤ x2 * 4 ∧ x2 * 4 ≤ 2147483647 ∧ -2147483648 ≤ 100 + (x2 * 4) ∧ 100 + (x2 * 4) ≤ 2147483647 ∧ -2147483648 ≤ (100 + (x2 * 4)) + x3 ∧ (100 + (x2 * 4)) + x3 ≤ 2147483647 ∧ S1.1 x0 = 12 ∧ CT l G bX11_usedWell d mc1 ms1 [vr x0, vi x1, vi ((100 + (x2 * 4)) + x3)] S1 V1 (fun z6 S6 V6 mc6 ms6 => (z6 ≠ 0 → S6.1 z1 = 4 ∧ S6.1 (V6 z1 13) = 20 ∧ 0 ≤ x3 ∧ x3 < S6.2.1 (V6 z1 13) ∧ S6.1 x0 = 12 ∧ Q 0 S6 (up V6 x0 8 (V6 (V6 z1 13) x3))) ∧ (¬ (z6 ≠ 0) → Q (-3) S6 V6))) ∧ (¬ (x3 < (V1 z1 14)) → Q (-1) S1 V1))))) : XJ l G bX11_holder Q d 0 [vr x0, vi x1, vi x2, vi x3, vu] [] S V mc ms := by
  refine X_aload_n dX11_holder_0 rfl ?_
  refine X_iload_n dX11_holder_1 rfl ?_
  refine X_iload_n dX11_holder_2 rfl ?_
  refine X_invV (ci := 11) (as := [vi x1, vi x2]) (st := []) okX11_enumOf dX11_holder_3 km_RX11_106 rfl rfl (Nat.le_of_ble_eq_true rfl) rfl rfl h.1 (CT.imp h.2 (fun z1 S1 V1 mc1 ms1 hc2 => ?_))
  refine X_astore dX11_holder_6 (by decide) rfl ?_
  refine X_aload dX11_holder_8 rfl ?_
  refine X_ifnull dX11_holder_10 (tgt := 26) rfl (fun c3 => ?_) (fun c3 => ?_)
  · refine X_iconst dX11_holder_26 (by decide) ?_
    exact X_ret (z := (-1)) dX11_holder_27 rfl (fun hv => vok_h hv) (hc2.1 c3)
  · refine X_iload_n dX11_holder_13 rfl ?_
    refine X_if_lt dX11_holder_14 (tgt := 26) rfl (fun c4 => ?_) (fun c4 => ?_)
    · refine X_iconst dX11_holder_26 (by decide) ?_
      exact X_ret (z := (-1)) dX11_holder_27 rfl (fun hv => vok_h hv) ((hc2.2 c3).1 c4)
    · refine X_iload_n dX11_holder_17 rfl ?_
      refine X_aload dX11_holder_18 rfl ?_
      refine X_getfield (ci := 3) (k := 14) (v := vi (V1 z1 14)) dX11_holder_20 rfl (by decide) kf_RX11_121 rfl ((hc2.2 c3).2 c4).1 ?_
      refine X_icmp_lt dX11_holder_23 (tgt := 28) rfl (fun c5 => ?_) (fun c5 => ?_)
      · refine X_aload_n dX11_holder_28 rfl ?_
        refine X_iload_n dX11_holder_29 rfl ?_
        refine X_bipush dX11_holder_30 (by decide) (by decide) ?_
        refine X_iload_n dX11_holder_32 rfl ?_
        refine X_iconst dX11_holder_33 (by decide) ?_
        refine X_imulN dX11_holder_34 (((hc2.2 c3).2 c4).2.1 c5).1 (((hc2.2 c3).2 c4).2.1 c5).2.1 ?_
        refine X_iaddN dX11_holder_35 (((hc2.2 c3).2 c4).2.1 c5).2.2.1 (((hc2.2 c3).2 c4).2.1 c5).2.2.2.1 ?_
        refine X_iload_n dX11_holder_36 rfl ?_
        refine X_iaddN dX11_holder_37 (((hc2.2 c3).2 c4).2.1 c5).2.2.2.2.1 (((hc2.2 c3).2 c4).2.1 c5).2.2.2.2.2.1 ?_
        refine X_invV (ci := 11) (as := [vi x1, vi ((100 + (x2 * 4)) + x3)]) (st := []) okX11_usedWell dX11_holder_38 km_RX11_159 rfl rfl (Nat.le_of_ble_eq_true rfl) rfl rfl (((hc2.2 c3).2 c4).2.1 c5).2.2.2.2.2.2.1 (CT.imp (((hc2.2 c3).2 c4).2.1 c5).2.2.2.2.2.2.2 (fun z6 S6 V6 mc6 ms6 hc7 => ?_))
        refine X_if_ne dX11_holder_41 (tgt := 47) rfl (fun c8 => ?_) (fun c8 => ?_)
        · refine X_aload_n dX11_holder_47 rfl ?_
          refine X_aload dX11_holder_48 rfl ?_
          refine X_getfield (ci := 3) (k := 13) (v := vr (V6 z1 13)) dX11_holder_50 rfl (by decide) kf_RX11_187 rfl (hc7.1 c8).1 ?_
          refine X_iload_n dX11_holder_53 rfl ?_
          refine X_iaload dX11_holder_54 (hc7.1 c8).2.1 (hc7.1 c8).2.2.1 (hc7.1 c8).2.2.2.1 ?_
          refine X_putfield (ci := 11) (k := 8) (z := (V6 (V6 z1 13) x3)) dX11_holder_55 rfl (by decide) kf_RX11_165 (Or.inl rfl) (Or.inl rfl) rfl (fun hv => hv) (hc7.1 c8).2.2.2.2.1 ?_
          refine X_iconst dX11_holder_58 (by decide) ?_
          exact X_ret (z := 0) dX11_holder_59 rfl (fun hv => vok_h hv) (hc7.1 c8).2.2.2.2.2
        · refine X_bipush dX11_holder_44 (by decide) (by decide) ?_
          exact X_ret (z := (-3)) dX11_holder_46 rfl (fun hv => vok_h hv) (hc7.2 c8)
      · refine X_iconst dX11_holder_26 (by decide) ?_
        exact X_ret (z := (-1)) dX11_holder_27 rfl (fun hv => vok_h hv) (((hc2.2 c3).2 c4).2.2 c5)
theorem qX11_holder {l : Launch} {G : GT} {Q : Int → Sh → Mem → Prop} {d : Nat} {S : Sh} {V : Mem} {mc ms : Nat} {x0 x1 x2 x3 : Int} (h : 0 ≤ x0 → inI x1 → inI x2 → inI x3 → XJ l G bX11_holder Q d 0 [vr x0, vi x1, vi x2, vi x3, vu] [] S V mc ms) : Ct l G bX11_holder Q d mc ms [vr x0, vi x1, vi x2, vi x3] S V := Ct.of okX11_holder.1 trivial (Nat.le_of_ble_eq_true rfl) (fun hv => h (hv _ (List.mem_of_getElem? (i := 0) rfl)) (hv _ (List.mem_of_getElem? (i := 1) rfl)) (hv _ (List.mem_of_getElem? (i := 2) rfl)) (hv _ (List.mem_of_getElem? (i := 3) rfl)))
set_option maxRecDepth 10000 in
theorem vX11_branch_0 {l : Launch} {G : GT} {Q : Int → Sh → Mem → Prop} {d : Nat} {S : Sh} {V : Mem} {mc ms : Nat} {x0 x1 x2 x3 x4 : Int} (h : S.1 x0 = 12 ∧ CT l G bX11_enumOf d mc ms [vr x0, vi x1, vi x2] S V (fun z1 S1 V1 mc1 ms1 => (z1 ≠ 0 → S1.1 z1 = 4 ∧ CT l G bX3_switchAt d mc1 ms1 [vr z1, vi x3] S1 V1 (fun z4 S4 V4 mc4 ms4 => (z1 = 0 → Q (-1) S4 V4) ∧ (¬ (z1 = 0) → (z4 = 0 → Q (-1) S4 V4) ∧ (¬ (z4 = 0) → S4.1 z1 = 4 ∧ CT l G bX3_constantAt d mc4 ms4 [vr z1, vi x4] S4 V4 (fun z8 S8 V8 mc8 ms8 => (z8 ≠ 0 → S8.1 x0 = 12 ∧ CT l G bX11_usedWell d mc8 ms8 [vr x0, vi x1, vi x2] S8 V8 (fun z11 S11 V11 mc11 ms11 => (z11 ≠ 0 → S11.1 x0 = 12 ∧ S11.1 (V11 x0 4) = 11 ∧ CT l G bX10_choose d mc11 ms11 [vr (V11 x0 4), vr z1, vr z4, vi x4] S11 V11 (fun z14 S14 V14 mc14 ms14 => S14.1 x0 = 12 ∧ CT l G bX11_giveOut d mc14 ms14 [vr x0, vi z14] S14 V14 (fun z16 S16 V16 mc16 ms16 => Q z16 S16 V16))) ∧ (¬ (z11 ≠ 0) → Q (-3) S11 V11))) ∧ (¬ (z8 ≠ 0) → Q (-1) S8 V8)))))) ∧ (¬ (z1 ≠ 0) → (z1 = 0 → Q (-1) S1 V1) ∧ (¬ (z1 = 0) → Q (-1) S1 V1)))) : XJ l G bX11_branch Q d 0 [vr x0, vi x1, vi x2, vi x3, vi x4, vu, vu] [] S V mc ms := by
  refine X_aload_n dX11_branch_0 rfl ?_
  refine X_iload_n dX11_branch_1 rfl ?_
  refine X_iload_n dX11_branch_2 rfl ?_
  refine X_invV (ci := 11) (as := [vi x1, vi x2]) (st := []) okX11_enumOf dX11_branch_3 km_RX11_106 rfl rfl (Nat.le_of_ble_eq_true rfl) rfl rfl h.1 (CT.imp h.2 (fun z1 S1 V1 mc1 ms1 hc2 => ?_))
  refine X_astore dX11_branch_6 (by decide) rfl ?_
  refine X_aload dX11_branch_8 rfl ?_
  refine X_ifnonnull dX11_branch_10 (tgt := 17) rfl (fun c3 => ?_) (fun c3 => ?_)
  · refine X_aload dX11_branch_17 rfl ?_
    refine X_iload_n dX11_branch_19 rfl ?_
    refine X_invV (ci := 3) (as := [vi x3]) (st := []) okX3_switchAt dX11_branch_20 km_RX11_190 rfl rfl (Nat.le_of_ble_eq_true rfl) rfl rfl (hc2.1 c3).1 (CT.imp (hc2.1 c3).2 (fun z4 S4 V4 mc4 ms4 hc5 => ?_))
    refine X_astore dX11_branch_23 (by decide) rfl ?_
    refine X_aload dX11_branch_25 rfl ?_
    refine X_ifnull dX11_branch_27 (tgt := 45) rfl (fun c6 => ?_) (fun c6 => ?_)
    · refine X_iconst dX11_branch_45 (by decide) ?_
      exact X_ret (z := (-1)) dX11_branch_46 rfl (fun hv => vok_h hv) (hc5.1 c6)
    · refine X_aload dX11_branch_30 rfl ?_
      refine X_ifnull dX11_branch_32 (tgt := 45) rfl (fun c7 => ?_) (fun c7 => ?_)
      · refine X_iconst dX11_branch_45 (by decide) ?_
        exact X_ret (z := (-1)) dX11_branch_46 rfl (fun hv => vok_h hv) ((hc5.2 c6).1 c7)
      · refine X_aload dX11_branch_35 rfl ?_
        refine X_iload dX11_branch_37 rfl ?_
        refine X_invV (ci := 3) (as := [vi x4]) (st := []) okX3_constantAt dX11_branch_39 km_RX11_143 rfl rfl (Nat.le_of_ble_eq_true rfl) rfl rfl ((hc5.2 c6).2 c7).1 (CT.imp ((hc5.2 c6).2 c7).2 (fun z8 S8 V8 mc8 ms8 hc9 => ?_))
        refine X_ifnonnull dX11_branch_42 (tgt := 47) rfl (fun c10 => ?_) (fun c10 => ?_)
        · refine X_aload_n dX11_branch_47 rfl ?_
          refine X_iload_n dX11_branch_48 rfl ?_
          refine X_iload_n dX11_branch_49 rfl ?_
          refine X_invV (ci := 11) (as := [vi x1, vi x2]) (st := []) okX11_usedWell dX11_branch_50 km_RX11_159 rfl rfl (Nat.le_of_ble_eq_true rfl) rfl rfl (hc9.1 c10).1 (CT.imp (hc9.1 c10).2 (fun z11 S11 V11 mc11 ms11 hc12 => ?_))
          refine X_if_ne dX11_branch_53 (tgt := 59) rfl (fun c13 => ?_) (fun c13 => ?_)
          · refine X_aload_n dX11_branch_59 rfl ?_
            refine X_aload_n dX11_branch_60 rfl ?_
            refine X_getfield (ci := 11) (k := 4) (v := vr (V11 x0 4)) dX11_branch_61 rfl (by decide) kf_RX11_32 rfl (hc12.1 c13).1 ?_
            refine X_aload dX11_branch_64 rfl ?_
            refine X_aload dX11_branch_66 rfl ?_
            refine X_iload dX11_branch_68 rfl ?_
            refine X_invV (ci := 10) (as := [vr z1, vr z4, vi x4]) (st := [vr x0]) okX10_choose dX11_branch_70 km_RX11_194 rfl rfl (Nat.le_of_ble_eq_true rfl) rfl rfl (hc12.1 c13).2.1 (CT.imp (hc12.1 c13).2.2 (fun z14 S14 V14 mc14 ms14 hc15 => ?_))
            refine X_invV (ci := 11) (as := [vi z14]) (st := []) okX11_giveOut dX11_branch_73 km_RX11_172 rfl rfl (Nat.le_of_ble_eq_true rfl) rfl rfl hc15.1 (CT.imp hc15.2 (fun z16 S16 V16 mc16 ms16 hc17 => ?_))
            exact X_ret (z := z16) dX11_branch_76 rfl (fun hv => vok_h hv) hc17
          · refine X_bipush dX11_branch_56 (by decide) (by decide) ?_
            exact X_ret (z := (-3)) dX11_branch_58 rfl (fun hv => vok_h hv) (hc12.2 c13)
        · refine X_iconst dX11_branch_45 (by decide) ?_
          exact X_ret (z := (-1)) dX11_branch_46 rfl (fun hv => vok_h hv) (hc9.2 c10)
  · refine X_aconst_null dX11_branch_13 ?_
    refine X_goto dX11_branch_14 (tgt := 23) rfl ?_
    refine X_astore dX11_branch_23 (by decide) rfl ?_
    refine X_aload dX11_branch_25 rfl ?_
    refine X_ifnull dX11_branch_27 (tgt := 45) rfl (fun c18 => ?_) (fun c18 => ?_)
    · refine X_iconst dX11_branch_45 (by decide) ?_
      exact X_ret (z := (-1)) dX11_branch_46 rfl (fun hv => vok_h hv) ((hc2.2 c3).1 c18)
    · refine X_aload dX11_branch_30 rfl ?_
      refine X_ifnull dX11_branch_32 (tgt := 45) rfl (fun _ => ?_) (fun c => absurd rfl c)
      refine X_iconst dX11_branch_45 (by decide) ?_
      exact X_ret (z := (-1)) dX11_branch_46 rfl (fun hv => vok_h hv) ((hc2.2 c3).2 c18)
theorem qX11_branch {l : Launch} {G : GT} {Q : Int → Sh → Mem → Prop} {d : Nat} {S : Sh} {V : Mem} {mc ms : Nat} {x0 x1 x2 x3 x4 : Int} (h : 0 ≤ x0 → inI x1 → inI x2 → inI x3 → inI x4 → XJ l G bX11_branch Q d 0 [vr x0, vi x1, vi x2, vi x3, vi x4, vu, vu] [] S V mc ms) : Ct l G bX11_branch Q d mc ms [vr x0, vi x1, vi x2, vi x3, vi x4] S V := Ct.of okX11_branch.1 trivial (Nat.le_of_ble_eq_true rfl) (fun hv => h (hv _ (List.mem_of_getElem? (i := 0) rfl)) (hv _ (List.mem_of_getElem? (i := 1) rfl)) (hv _ (List.mem_of_getElem? (i := 2) rfl)) (hv _ (List.mem_of_getElem? (i := 3) rfl)) (hv _ (List.mem_of_getElem? (i := 4) rfl)))
set_option maxRecDepth 10000 in
theorem vX11_out_0 {l : Launch} {G : GT} {Q : Int → Sh → Mem → Prop} {d : Nat} {S : Sh} {V : Mem} {mc ms : Nat} {x0 : Int} (h : S.1 x0 = 12 ∧ Q (V x0 8) S V) : XJ l G bX11_out Q d 0 [vr x0] [] S V mc ms := by
  refine X_aload_n dX11_out_0 rfl ?_
  refine X_getfield (ci := 11) (k := 8) (v := vi (V x0 8)) dX11_out_1 rfl (by decide) kf_RX11_165 rfl h.1 ?_
  exact X_ret (z := (V x0 8)) dX11_out_4 rfl (fun hv => vok_h hv) h.2
theorem qX11_out {l : Launch} {G : GT} {Q : Int → Sh → Mem → Prop} {d : Nat} {S : Sh} {V : Mem} {mc ms : Nat} {x0 : Int} (h : 0 ≤ x0 → XJ l G bX11_out Q d 0 [vr x0] [] S V mc ms) : Ct l G bX11_out Q d mc ms [vr x0] S V := Ct.of okX11_out.1 trivial (Nat.le_of_ble_eq_true rfl) (fun hv => h (hv _ (List.mem_of_getElem? (i := 0) rfl)))
set_option maxRecDepth 10000 in
theorem vX11_cause_0 {l : Launch} {G : GT} {Q : Int → Sh → Mem → Prop} {d : Nat} {S : Sh} {V : Mem} {mc ms : Nat} {x0 x1 x2 : Int} (h : (x2 ≠ 0 → (x2 ≠ 1 → Q (-1) S V) ∧ (¬ (x2 ≠ 1) → S.1 x0 = 12 ∧ S.1 (V x0 4) = 11 ∧ CT l G bX10_causeItem d mc ms [vr (V x0 4), vi x1] S V (fun z3 S3 V3 mc3 ms3 => Q z3 S3 V3))) ∧ (¬ (x2 ≠ 0) → S.1 x0 = 12 ∧ S.1 (V x0 4) = 11 ∧ CT l G bX10_causeKind d mc ms [vr (V x0 4), vi x1] S V (fun z5 S5 V5 mc5 ms5 => Q z5 S5 V5))) : XJ l G bX11_cause Q d 0 [vr x0, vi x1, vi x2] [] S V mc ms := by
  refine X_iload_n dX11_cause_0 rfl ?_
  refine X_if_ne dX11_cause_1 (tgt := 13) rfl (fun c1 => ?_) (fun c1 => ?_)
  · refine X_iload_n dX11_cause_13 rfl ?_
    refine X_iconst dX11_cause_14 (by decide) ?_
    refine X_icmp_ne dX11_cause_15 (tgt := 29) rfl (fun c2 => ?_) (fun c2 => ?_)
    · refine X_iconst dX11_cause_29 (by decide) ?_
      exact X_ret (z := (-1)) dX11_cause_30 rfl (fun hv => vok_h hv) ((h.1 c1).1 c2)
    · refine X_aload_n dX11_cause_18 rfl ?_
      refine X_getfield (ci := 11) (k := 4) (v := vr (V x0 4)) dX11_cause_19 rfl (by decide) kf_RX11_32 rfl ((h.1 c1).2 c2).1 ?_
      refine X_iload_n dX11_cause_22 rfl ?_
      refine X_invV (ci := 10) (as := [vi x1]) (st := []) okX10_causeItem dX11_cause_23 km_RX11_201 rfl rfl (Nat.le_of_ble_eq_true rfl) rfl rfl ((h.1 c1).2 c2).2.1 (CT.imp ((h.1 c1).2 c2).2.2 (fun z3 S3 V3 mc3 ms3 hc4 => ?_))
      refine X_goto dX11_cause_26 (tgt := 30) rfl ?_
      exact X_ret (z := z3) dX11_cause_30 rfl (fun hv => vok_h hv) hc4
  · refine X_aload_n dX11_cause_4 rfl ?_
    refine X_getfield (ci := 11) (k := 4) (v := vr (V x0 4)) dX11_cause_5 rfl (by decide) kf_RX11_32 rfl (h.2 c1).1 ?_
    refine X_iload_n dX11_cause_8 rfl ?_
    refine X_invV (ci := 10) (as := [vi x1]) (st := []) okX10_causeKind dX11_cause_9 km_RX11_198 rfl rfl (Nat.le_of_ble_eq_true rfl) rfl rfl (h.2 c1).2.1 (CT.imp (h.2 c1).2.2 (fun z5 S5 V5 mc5 ms5 hc6 => ?_))
    exact X_ret (z := z5) dX11_cause_12 rfl (fun hv => vok_h hv) hc6
theorem qX11_cause {l : Launch} {G : GT} {Q : Int → Sh → Mem → Prop} {d : Nat} {S : Sh} {V : Mem} {mc ms : Nat} {x0 x1 x2 : Int} (h : 0 ≤ x0 → inI x1 → inI x2 → XJ l G bX11_cause Q d 0 [vr x0, vi x1, vi x2] [] S V mc ms) : Ct l G bX11_cause Q d mc ms [vr x0, vi x1, vi x2] S V := Ct.of okX11_cause.1 trivial (Nat.le_of_ble_eq_true rfl) (fun hv => h (hv _ (List.mem_of_getElem? (i := 0) rfl)) (hv _ (List.mem_of_getElem? (i := 1) rfl)) (hv _ (List.mem_of_getElem? (i := 2) rfl)))
set_option maxRecDepth 10000 in
theorem vX11_start_0 {l : Launch} {G : GT} {Q : Int → Sh → Mem → Prop} {d : Nat} {S : Sh} {V : Mem} {mc ms : Nat} {x0 x1 x2 : Int} (h : S.1 x0 = 12 ∧ CT l G bX11_bookAt d mc ms [vr x0, vi x1] S V (fun z1 S1 V1 mc1 ms1 => (z1 = 0 → Q (-1) S1 V1) ∧ (¬ (z1 = 0) → (x2 < 0 → Q (-1) S1 V1) ∧ (¬ (x2 < 0) → S1.1 z1 = 1 ∧ (x2 < (V1 z1 6) → S1.1 (V1 z1 5) = 20 ∧ 0 ≤ x2 ∧ x2 < S1.2.1 (V1 z1 5) ∧ Q (V1 (V1 z1 5) x2) S1 V1) ∧ (¬ (x2 < (V1 z1 6)) → Q (-1) S1 V1))))) : XJ l G bX11_start Q d 0 [vr x0, vi x1, vi x2, vu] [] S V mc ms := by
  refine X_aload_n dX11_start_0 rfl ?_
  refine X_iload_n dX11_start_1 rfl ?_
  refine X_invV (ci := 11) (as := [vi x1]) (st := []) okX11_bookAt dX11_start_2 km_RX11_90 rfl rfl (Nat.le_of_ble_eq_true rfl) rfl rfl h.1 (CT.imp h.2 (fun z1 S1 V1 mc1 ms1 hc2 => ?_))
  refine X_astore_n dX11_start_5 (by decide) rfl ?_
  refine X_aload_n dX11_start_6 rfl ?_
  refine X_ifnull dX11_start_7 (tgt := 22) rfl (fun c3 => ?_) (fun c3 => ?_)
  · refine X_iconst dX11_start_22 (by decide) ?_
    exact X_ret (z := (-1)) dX11_start_23 rfl (fun hv => vok_h hv) (hc2.1 c3)
  · refine X_iload_n dX11_start_10 rfl ?_
    refine X_if_lt dX11_start_11 (tgt := 22) rfl (fun c4 => ?_) (fun c4 => ?_)
    · refine X_iconst dX11_start_22 (by decide) ?_
      exact X_ret (z := (-1)) dX11_start_23 rfl (fun hv => vok_h hv) ((hc2.2 c3).1 c4)
    · refine X_iload_n dX11_start_14 rfl ?_
      refine X_aload_n dX11_start_15 rfl ?_
      refine X_getfield (ci := 0) (k := 6) (v := vi (V1 z1 6)) dX11_start_16 rfl (by decide) kf_RX11_100 rfl ((hc2.2 c3).2 c4).1 ?_
      refine X_icmp_lt dX11_start_19 (tgt := 24) rfl (fun c5 => ?_) (fun c5 => ?_)
      · refine X_aload_n dX11_start_24 rfl ?_
        refine X_getfield (ci := 0) (k := 5) (v := vr (V1 z1 5)) dX11_start_25 rfl (by decide) kf_RX11_204 rfl ((hc2.2 c3).2 c4).1 ?_
        refine X_iload_n dX11_start_28 rfl ?_
        refine X_iaload dX11_start_29 (((hc2.2 c3).2 c4).2.1 c5).1 (((hc2.2 c3).2 c4).2.1 c5).2.1 (((hc2.2 c3).2 c4).2.1 c5).2.2.1 ?_
        exact X_ret (z := (V1 (V1 z1 5) x2)) dX11_start_30 rfl (fun hv => vok_h hv) (((hc2.2 c3).2 c4).2.1 c5).2.2.2
      · refine X_iconst dX11_start_22 (by decide) ?_
        exact X_ret (z := (-1)) dX11_start_23 rfl (fun hv => vok_h hv) (((hc2.2 c3).2 c4).2.2 c5)
theorem qX11_start {l : Launch} {G : GT} {Q : Int → Sh → Mem → Prop} {d : Nat} {S : Sh} {V : Mem} {mc ms : Nat} {x0 x1 x2 : Int} (h : 0 ≤ x0 → inI x1 → inI x2 → XJ l G bX11_start Q d 0 [vr x0, vi x1, vi x2, vu] [] S V mc ms) : Ct l G bX11_start Q d mc ms [vr x0, vi x1, vi x2] S V := Ct.of okX11_start.1 trivial (Nat.le_of_ble_eq_true rfl) (fun hv => h (hv _ (List.mem_of_getElem? (i := 0) rfl)) (hv _ (List.mem_of_getElem? (i := 1) rfl)) (hv _ (List.mem_of_getElem? (i := 2) rfl)))
set_option maxRecDepth 10000 in
theorem vX11_seen_0 {l : Launch} {G : GT} {Q : Int → Sh → Mem → Prop} {d : Nat} {S : Sh} {V : Mem} {mc ms : Nat} {x0 x1 x2 x3 : Int} (h : S.1 x0 = 12 ∧ CT l G bX11_bookAt d mc ms [vr x0, vi x1] S V (fun z1 S1 V1 mc1 ms1 => (z1 = 0 → Q (-1) S1 V1) ∧ (¬ (z1 = 0) → (x2 < 0 → Q (-1) S1 V1) ∧ (¬ (x2 < 0) → S1.1 z1 = 1 ∧ (x2 < (V1 z1 9) → (x3 ≠ 0 → (x3 ≠ 1 → Q (-1) S1 V1) ∧ (¬ (x3 ≠ 1) → S1.1 (V1 z1 8) = 20 ∧ 0 ≤ x2 ∧ x2 < S1.2.1 (V1 z1 8) ∧ Q (V1 (V1 z1 8) x2) S1 V1)) ∧ (¬ (x3 ≠ 0) → S1.1 (V1 z1 7) = 20 ∧ 0 ≤ x2 ∧ x2 < S1.2.1 (V1 z1 7) ∧ Q (V1 (V1 z1 7) x2) S1 V1)) ∧ (¬ (x2 < (V1 z1 9)) → Q (-1) S1 V1))))) : XJ l G bX11_seen Q d 0 [vr x0, vi x1, vi x2, vi x3, vu] [] S V mc ms := by
  refine X_aload_n dX11_seen_0 rfl ?_
  refine X_iload_n dX11_seen_1 rfl ?_
  refine X_invV (ci := 11) (as := [vi x1]) (st := []) okX11_bookAt dX11_seen_2 km_RX11_90 rfl rfl (Nat.le_of_ble_eq_true rfl) rfl rfl h.1 (CT.imp h.2 (fun z1 S1 V1 mc1 ms1 hc2 => ?_))
  refine X_astore dX11_seen_5 (by decide) rfl ?_
  refine X_aload dX11_seen_7 rfl ?_
  refine X_ifnull dX11_seen_9 (tgt := 25) rfl (fun c3 => ?_) (fun c3 => ?_)
  · refine X_iconst dX11_seen_25 (by decide) ?_
    exact X_ret (z := (-1)) dX11_seen_26 rfl (fun hv => vok_h hv) (hc2.1 c3)
  · refine X_iload_n dX11_seen_12 rfl ?_
    refine X_if_lt dX11_seen_13 (tgt := 25) rfl (fun c4 => ?_) (fun c4 => ?_)
    · refine X_iconst dX11_seen_25 (by decide) ?_
      exact X_ret (z := (-1)) dX11_seen_26 rfl (fun hv => vok_h hv) ((hc2.2 c3).1 c4)
    · refine X_iload_n dX11_seen_16 rfl ?_
      refine X_aload dX11_seen_17 rfl ?_
      refine X_getfield (ci := 0) (k := 9) (v := vi (V1 z1 9)) dX11_seen_19 rfl (by decide) kf_RX11_103 rfl ((hc2.2 c3).2 c4).1 ?_
      refine X_icmp_lt dX11_seen_22 (tgt := 27) rfl (fun c5 => ?_) (fun c5 => ?_)
      · refine X_iload_n dX11_seen_27 rfl ?_
        refine X_if_ne dX11_seen_28 (tgt := 39) rfl (fun c6 => ?_) (fun c6 => ?_)
        · refine X_iload_n dX11_seen_39 rfl ?_
          refine X_iconst dX11_seen_40 (by decide) ?_
          refine X_icmp_ne dX11_seen_41 (tgt := 54) rfl (fun c7 => ?_) (fun c7 => ?_)
          · refine X_iconst dX11_seen_54 (by decide) ?_
            exact X_ret (z := (-1)) dX11_seen_55 rfl (fun hv => vok_h hv) (((((hc2.2 c3).2 c4).2.1 c5).1 c6).1 c7)
          · refine X_aload dX11_seen_44 rfl ?_
            refine X_getfield (ci := 0) (k := 8) (v := vr (V1 z1 8)) dX11_seen_46 rfl (by decide) kf_RX11_210 rfl ((hc2.2 c3).2 c4).1 ?_
            refine X_iload_n dX11_seen_49 rfl ?_
            refine X_iaload dX11_seen_50 (((((hc2.2 c3).2 c4).2.1 c5).1 c6).2 c7).1 (((((hc2.2 c3).2 c4).2.1 c5).1 c6).2 c7).2.1 (((((hc2.2 c3).2 c4).2.1 c5).1 c6).2 c7).2.2.1 ?_
            refine X_goto dX11_seen_51 (tgt := 55) rfl ?_
            exact X_ret (z := (V1 (V1 z1 8) x2)) dX11_seen_55 rfl (fun hv => vok_h hv) (((((hc2.2 c3).2 c4).2.1 c5).1 c6).2 c7).2.2.2
        · refine X_aload dX11_seen_31 rfl ?_
          refine X_getfield (ci := 0) (k := 7) (v := vr (V1 z1 7)) dX11_seen_33 rfl (by decide) kf_RX11_207 rfl ((hc2.2 c3).2 c4).1 ?_
          refine X_iload_n dX11_seen_36 rfl ?_
          refine X_iaload dX11_seen_37 ((((hc2.2 c3).2 c4).2.1 c5).2 c6).1 ((((hc2.2 c3).2 c4).2.1 c5).2 c6).2.1 ((((hc2.2 c3).2 c4).2.1 c5).2 c6).2.2.1 ?_
          exact X_ret (z := (V1 (V1 z1 7) x2)) dX11_seen_38 rfl (fun hv => vok_h hv) ((((hc2.2 c3).2 c4).2.1 c5).2 c6).2.2.2
      · refine X_iconst dX11_seen_25 (by decide) ?_
        exact X_ret (z := (-1)) dX11_seen_26 rfl (fun hv => vok_h hv) (((hc2.2 c3).2 c4).2.2 c5)
theorem qX11_seen {l : Launch} {G : GT} {Q : Int → Sh → Mem → Prop} {d : Nat} {S : Sh} {V : Mem} {mc ms : Nat} {x0 x1 x2 x3 : Int} (h : 0 ≤ x0 → inI x1 → inI x2 → inI x3 → XJ l G bX11_seen Q d 0 [vr x0, vi x1, vi x2, vi x3, vu] [] S V mc ms) : Ct l G bX11_seen Q d mc ms [vr x0, vi x1, vi x2, vi x3] S V := Ct.of okX11_seen.1 trivial (Nat.le_of_ble_eq_true rfl) (fun hv => h (hv _ (List.mem_of_getElem? (i := 0) rfl)) (hv _ (List.mem_of_getElem? (i := 1) rfl)) (hv _ (List.mem_of_getElem? (i := 2) rfl)) (hv _ (List.mem_of_getElem? (i := 3) rfl)))
set_option maxRecDepth 10000 in
theorem vX11_set_0 {l : Launch} {G : GT} {Q : Int → Sh → Mem → Prop} {d : Nat} {S : Sh} {V : Mem} {mc ms : Nat} {x0 x1 x2 : Int} (h : S.1 x0 = 12 ∧ CT l G bX11_enumOf d mc ms [vr x0, vi x1, vi x2] S V (fun z1 S1 V1 mc1 ms1 => (z1 ≠ 0 → S1.1 x0 = 12 ∧ ((V1 x0 10) < 40 → CT l G bX11_usedWell d mc1 ms1 [vr x0, vi x1, vi x2] S1 V1 (fun z5 S5 V5 mc5 ms5 => (z5 ≠ 0 → 1 ≤ mc5 ∧ 4 ≤ ms5 ∧ (∀ (S8 : Sh) (V8 : Mem) (r8 : Int) (mc8 ms8 : Nat), r8 = S5.2.2 + 1 → S8 = nw S5 7 0 → V8 = clr V5 r8 → mc8 = mc5 - 1 → ms8 = ms5 - 4 → r8 ≠ 0 ∧ CT l G bX6_init d mc8 ms8 [vr r8, vi x1, vi x2, vi 0] S8 V8 (fun z10 S10 V10 mc10 ms10 => S10.1 x0 = 12 ∧ CT l G bX11_keepSet d mc10 ms10 [vr x0, vr r8] S10 V10 (fun z12 S12 V12 mc12 ms12 => Q z12 S12 V12)))) ∧ (¬ (z5 ≠ 0) → Q (-3) S5 V5))) ∧ (¬ ((V1 x0 10) < 40) → Q (-2) S1 V1)) ∧ (¬ (z1 ≠ 0) → Q (-1) S1 V1))) : XJ l G bX11_set Q d 0 [vr x0, vi x1, vi x2] [] S V mc ms := by
  refine X_aload_n dX11_set_0 rfl ?_
  refine X_iload_n dX11_set_1 rfl ?_
  refine X_iload_n dX11_set_2 rfl ?_
  refine X_invV (ci := 11) (as := [vi x1, vi x2]) (st := []) okX11_enumOf dX11_set_3 km_RX11_106 rfl rfl (Nat.le_of_ble_eq_true rfl) rfl rfl h.1 (CT.imp h.2 (fun z1 S1 V1 mc1 ms1 hc2 => ?_))
  refine X_ifnonnull dX11_set_6 (tgt := 11) rfl (fun c3 => ?_) (fun c3 => ?_)
  · refine X_aload_n dX11_set_11 rfl ?_
    refine X_getfield (ci := 11) (k := 10) (v := vi (V1 x0 10)) dX11_set_12 rfl (by decide) kf_RX11_213 rfl (hc2.1 c3).1 ?_
    refine X_bipush dX11_set_15 (by decide) (by decide) ?_
    refine X_icmp_lt dX11_set_17 (tgt := 23) rfl (fun c4 => ?_) (fun c4 => ?_)
    · refine X_aload_n dX11_set_23 rfl ?_
      refine X_iload_n dX11_set_24 rfl ?_
      refine X_iload_n dX11_set_25 rfl ?_
      refine X_invV (ci := 11) (as := [vi x1, vi x2]) (st := []) okX11_usedWell dX11_set_26 km_RX11_159 rfl rfl (Nat.le_of_ble_eq_true rfl) rfl rfl (hc2.1 c3).1 (CT.imp ((hc2.1 c3).2.1 c4) (fun z5 S5 V5 mc5 ms5 hc6 => ?_))
      refine X_if_ne dX11_set_29 (tgt := 35) rfl (fun c7 => ?_) (fun c7 => ?_)
      · refine X_aload_n dX11_set_35 rfl ?_
        refine X_newT (t := 7) (ci := 6) rfl dX11_set_36 rfl ⟨kc_RX11_42, kn_6⟩ kd_6 (hc6.1 c7).1 (hc6.1 c7).2.1 ?_
        generalize hShn9 : nw S5 7 0 = S8
        generalize hVhn9 : clr V5 (S5.2.2 + 1) = V8
        generalize hrhn9 : S5.2.2 + 1 = r8 at hVhn9 ⊢
        generalize hmhn9 : mc5 - 1 = mc8
        generalize hkhn9 : ms5 - 4 = ms8
        have hn9 := (hc6.1 c7).2.2 S8 V8 r8 mc8 ms8 hrhn9.symm hShn9.symm hVhn9.symm hmhn9.symm hkhn9.symm
        refine X_dup dX11_set_39 (rv_cat _) ?_
        refine X_iload_n dX11_set_40 rfl ?_
        refine X_iload_n dX11_set_41 rfl ?_
        refine X_iconst dX11_set_42 (by decide) ?_
        refine X_invI (as := [vi x1, vi x2, vi 0]) (st := [vr r8, vr x0]) okX6_init dX11_set_43 km_RX11_216 rfl rfl (Nat.le_of_ble_eq_true rfl) hn9.1 (CT.imp hn9.2 (fun z10 S10 V10 mc10 ms10 hc11 => ?_))
        refine X_invV (ci := 11) (as := [vr r8]) (st := []) okX11_keepSet dX11_set_46 km_RX11_219 rfl rfl (Nat.le_of_ble_eq_true rfl) rfl rfl hc11.1 (CT.imp hc11.2 (fun z12 S12 V12 mc12 ms12 hc13 => ?_))
        exact X_ret (z := z12) dX11_set_49 rfl (fun hv => vok_h hv) hc13
      · refine X_bipush dX11_set_32 (by decide) (by decide) ?_
        exact X_ret (z := (-3)) dX11_set_34 rfl (fun hv => vok_h hv) (hc6.2 c7)
    · refine X_bipush dX11_set_20 (by decide) (by decide) ?_
      exact X_ret (z := (-2)) dX11_set_22 rfl (fun hv => vok_h hv) ((hc2.1 c3).2.2 c4)
  · refine X_iconst dX11_set_9 (by decide) ?_
    exact X_ret (z := (-1)) dX11_set_10 rfl (fun hv => vok_h hv) (hc2.2 c3)
theorem qX11_set {l : Launch} {G : GT} {Q : Int → Sh → Mem → Prop} {d : Nat} {S : Sh} {V : Mem} {mc ms : Nat} {x0 x1 x2 : Int} (h : 0 ≤ x0 → inI x1 → inI x2 → XJ l G bX11_set Q d 0 [vr x0, vi x1, vi x2] [] S V mc ms) : Ct l G bX11_set Q d mc ms [vr x0, vi x1, vi x2] S V := Ct.of okX11_set.1 trivial (Nat.le_of_ble_eq_true rfl) (fun hv => h (hv _ (List.mem_of_getElem? (i := 0) rfl)) (hv _ (List.mem_of_getElem? (i := 1) rfl)) (hv _ (List.mem_of_getElem? (i := 2) rfl)))
set_option maxRecDepth 10000 in
theorem vX11_add_0 {l : Launch} {G : GT} {Q : Int → Sh → Mem → Prop} {d : Nat} {S : Sh} {V : Mem} {mc ms : Nat} {x0 x1 x2 : Int} (h : S.1 x0 = 12 ∧ CT l G bX11_setAt d mc ms [vr x0, vi x1] S V (fun z1 S1 V1 mc1 ms1 => (z1 = 0 → Q (-1) S1 V1) ∧ (¬ (z1 = 0) → S1.1 x0 = 12 ∧ CT l G bX11_isConstant d mc1 ms1 [vr x0, vr z1, vi x2] S1 V1 (fun z4 S4 V4 mc4 ms4 => (z4 ≠ 0 → S4.1 z1 = 7 ∧ CT l G bX6_include d mc4 ms4 [vr z1, vi x2] S4 V4 (fun z7 S7 V7 mc7 ms7 => (z7 = 0 → Q 0 S7 V7) ∧ (¬ (z7 = 0) → Q 1 S7 V7))) ∧ (¬ (z4 ≠ 0) → Q (-1) S4 V4))))) : XJ l G bX11_add Q d 0 [vr x0, vi x1, vi x2, vu] [] S V mc ms := by
  refine X_aload_n dX11_add_0 rfl ?_
  refine X_iload_n dX11_add_1 rfl ?_
  refine X_invV (ci := 11) (as := [vi x1]) (st := []) okX11_setAt dX11_add_2 km_RX11_223 rfl rfl (Nat.le_of_ble_eq_true rfl) rfl rfl h.1 (CT.imp h.2 (fun z1 S1 V1 mc1 ms1 hc2 => ?_))
  refine X_astore_n dX11_add_5 (by decide) rfl ?_
  refine X_aload_n dX11_add_6 rfl ?_
  refine X_ifnull dX11_add_7 (tgt := 19) rfl (fun c3 => ?_) (fun c3 => ?_)
  · refine X_iconst dX11_add_19 (by decide) ?_
    exact X_ret (z := (-1)) dX11_add_20 rfl (fun hv => vok_h hv) (hc2.1 c3)
  · refine X_aload_n dX11_add_10 rfl ?_
    refine X_aload_n dX11_add_11 rfl ?_
    refine X_iload_n dX11_add_12 rfl ?_
    refine X_invV (ci := 11) (as := [vr z1, vi x2]) (st := []) okX11_isConstant dX11_add_13 km_RX11_227 rfl rfl (Nat.le_of_ble_eq_true rfl) rfl rfl (hc2.2 c3).1 (CT.imp (hc2.2 c3).2 (fun z4 S4 V4 mc4 ms4 hc5 => ?_))
    refine X_if_ne dX11_add_16 (tgt := 21) rfl (fun c6 => ?_) (fun c6 => ?_)
    · refine X_aload_n dX11_add_21 rfl ?_
      refine X_iload_n dX11_add_22 rfl ?_
      refine X_invV (ci := 6) (as := [vi x2]) (st := []) okX6_include dX11_add_23 km_RX11_231 rfl rfl (Nat.le_of_ble_eq_true rfl) rfl rfl (hc5.1 c6).1 (CT.imp (hc5.1 c6).2 (fun z7 S7 V7 mc7 ms7 hc8 => ?_))
      refine X_if_eq dX11_add_26 (tgt := 33) rfl (fun c9 => ?_) (fun c9 => ?_)
      · refine X_iconst dX11_add_33 (by decide) ?_
        exact X_ret (z := 0) dX11_add_34 rfl (fun hv => vok_h hv) (hc8.1 c9)
      · refine X_iconst dX11_add_29 (by decide) ?_
        refine X_goto dX11_add_30 (tgt := 34) rfl ?_
        exact X_ret (z := 1) dX11_add_34 rfl (fun hv => vok_h hv) (hc8.2 c9)
    · refine X_iconst dX11_add_19 (by decide) ?_
      exact X_ret (z := (-1)) dX11_add_20 rfl (fun hv => vok_h hv) (hc5.2 c6)
theorem qX11_add {l : Launch} {G : GT} {Q : Int → Sh → Mem → Prop} {d : Nat} {S : Sh} {V : Mem} {mc ms : Nat} {x0 x1 x2 : Int} (h : 0 ≤ x0 → inI x1 → inI x2 → XJ l G bX11_add Q d 0 [vr x0, vi x1, vi x2, vu] [] S V mc ms) : Ct l G bX11_add Q d mc ms [vr x0, vi x1, vi x2] S V := Ct.of okX11_add.1 trivial (Nat.le_of_ble_eq_true rfl) (fun hv => h (hv _ (List.mem_of_getElem? (i := 0) rfl)) (hv _ (List.mem_of_getElem? (i := 1) rfl)) (hv _ (List.mem_of_getElem? (i := 2) rfl)))
set_option maxRecDepth 10000 in
theorem vX11_take_0 {l : Launch} {G : GT} {Q : Int → Sh → Mem → Prop} {d : Nat} {S : Sh} {V : Mem} {mc ms : Nat} {x0 x1 x2 : Int} (h : S.1 x0 = 12 ∧ CT l G bX11_setAt d mc ms [vr x0, vi x1] S V (fun z1 S1 V1 mc1 ms1 => (z1 = 0 → Q (-1) S1 V1) ∧ (¬ (z1 = 0) → S1.1 x0 = 12 ∧ CT l G bX11_isConstant d mc1 ms1 [vr x0, vr z1, vi x2] S1 V1 (fun z4 S4 V4 mc4 ms4 => (z4 ≠ 0 → S4.1 z1 = 7 ∧ CT l G bX6_exclude d mc4 ms4 [vr z1, vi x2] S4 V4 (fun z7 S7 V7 mc7 ms7 => (z7 = 0 → Q 0 S7 V7) ∧ (¬ (z7 = 0) → Q 1 S7 V7))) ∧ (¬ (z4 ≠ 0) → Q (-1) S4 V4))))) : XJ l G bX11_take Q d 0 [vr x0, vi x1, vi x2, vu] [] S V mc ms := by
  refine X_aload_n dX11_take_0 rfl ?_
  refine X_iload_n dX11_take_1 rfl ?_
  refine X_invV (ci := 11) (as := [vi x1]) (st := []) okX11_setAt dX11_take_2 km_RX11_223 rfl rfl (Nat.le_of_ble_eq_true rfl) rfl rfl h.1 (CT.imp h.2 (fun z1 S1 V1 mc1 ms1 hc2 => ?_))
  refine X_astore_n dX11_take_5 (by decide) rfl ?_
  refine X_aload_n dX11_take_6 rfl ?_
  refine X_ifnull dX11_take_7 (tgt := 19) rfl (fun c3 => ?_) (fun c3 => ?_)
  · refine X_iconst dX11_take_19 (by decide) ?_
    exact X_ret (z := (-1)) dX11_take_20 rfl (fun hv => vok_h hv) (hc2.1 c3)
  · refine X_aload_n dX11_take_10 rfl ?_
    refine X_aload_n dX11_take_11 rfl ?_
    refine X_iload_n dX11_take_12 rfl ?_
    refine X_invV (ci := 11) (as := [vr z1, vi x2]) (st := []) okX11_isConstant dX11_take_13 km_RX11_227 rfl rfl (Nat.le_of_ble_eq_true rfl) rfl rfl (hc2.2 c3).1 (CT.imp (hc2.2 c3).2 (fun z4 S4 V4 mc4 ms4 hc5 => ?_))
    refine X_if_ne dX11_take_16 (tgt := 21) rfl (fun c6 => ?_) (fun c6 => ?_)
    · refine X_aload_n dX11_take_21 rfl ?_
      refine X_iload_n dX11_take_22 rfl ?_
      refine X_invV (ci := 6) (as := [vi x2]) (st := []) okX6_exclude dX11_take_23 km_RX11_234 rfl rfl (Nat.le_of_ble_eq_true rfl) rfl rfl (hc5.1 c6).1 (CT.imp (hc5.1 c6).2 (fun z7 S7 V7 mc7 ms7 hc8 => ?_))
      refine X_if_eq dX11_take_26 (tgt := 33) rfl (fun c9 => ?_) (fun c9 => ?_)
      · refine X_iconst dX11_take_33 (by decide) ?_
        exact X_ret (z := 0) dX11_take_34 rfl (fun hv => vok_h hv) (hc8.1 c9)
      · refine X_iconst dX11_take_29 (by decide) ?_
        refine X_goto dX11_take_30 (tgt := 34) rfl ?_
        exact X_ret (z := 1) dX11_take_34 rfl (fun hv => vok_h hv) (hc8.2 c9)
    · refine X_iconst dX11_take_19 (by decide) ?_
      exact X_ret (z := (-1)) dX11_take_20 rfl (fun hv => vok_h hv) (hc5.2 c6)
theorem qX11_take {l : Launch} {G : GT} {Q : Int → Sh → Mem → Prop} {d : Nat} {S : Sh} {V : Mem} {mc ms : Nat} {x0 x1 x2 : Int} (h : 0 ≤ x0 → inI x1 → inI x2 → XJ l G bX11_take Q d 0 [vr x0, vi x1, vi x2, vu] [] S V mc ms) : Ct l G bX11_take Q d mc ms [vr x0, vi x1, vi x2] S V := Ct.of okX11_take.1 trivial (Nat.le_of_ble_eq_true rfl) (fun hv => h (hv _ (List.mem_of_getElem? (i := 0) rfl)) (hv _ (List.mem_of_getElem? (i := 1) rfl)) (hv _ (List.mem_of_getElem? (i := 2) rfl)))
set_option maxRecDepth 10000 in
theorem vX11_join_0 {l : Launch} {G : GT} {Q : Int → Sh → Mem → Prop} {d : Nat} {S : Sh} {V : Mem} {mc ms : Nat} {x0 x1 x2 x3 : Int} (h : S.1 x0 = 12 ∧ CT l G bX11_setAt d mc ms [vr x0, vi x1] S V (fun z1 S1 V1 mc1 ms1 => S1.1 x0 = 12 ∧ CT l G bX11_setAt d mc1 ms1 [vr x0, vi x2] S1 V1 (fun z3 S3 V3 mc3 ms3 => (z1 = 0 → Q (-1) S3 V3) ∧ (¬ (z1 = 0) → (z3 ≠ 0 → S3.1 z1 = 7 ∧ S3.1 z3 = 7 ∧ ((V3 z1 0) ≠ (V3 z3 0) → Q (-4) S3 V3) ∧ (¬ ((V3 z1 0) ≠ (V3 z3 0)) → ((V3 z1 1) ≠ (V3 z3 1) → Q (-4) S3 V3) ∧ (¬ ((V3 z1 1) ≠ (V3 z3 1)) → (x3 < 0 → Q (-4) S3 V3) ∧ (¬ (x3 < 0) → (x3 ≤ 3 → S3.1 x0 = 12 ∧ ((V3 x0 10) < 40 → 1 ≤ mc3 ∧ 4 ≤ ms3 ∧ (∀ (S12 : Sh) (V12 : Mem) (r12 : Int) (mc12 ms12 : Nat), r12 = S3.2.2 + 1 → S12 = nw S3 7 0 → V12 = clr V3 r12 → mc12 = mc3 - 1 → ms12 = ms3 - 4 → S12.1 z1 = 7 ∧ S12.1 z3 = 7 ∧ CT l G bX11_joined d mc12 ms12 [vi (V12 z1 2), vi (V12 z3 2), vi x3] S12 V12 (fun z14 S14 V14 mc14 ms14 => r12 ≠ 0 ∧ CT l G bX6_init d mc14 ms14 [vr r12, vi (V12 z1 0), vi (V12 z1 1), vi z14] S14 V14 (fun z16 S16 V16 mc16 ms16 => S16.1 x0 = 12 ∧ CT l G bX11_keepSet d mc16 ms16 [vr x0, vr r12] S16 V16 (fun z18 S18 V18 mc18 ms18 => Q z18 S18 V18))))) ∧ (¬ ((V3 x0 10) < 40) → Q (-2) S3 V3)) ∧ (¬ (x3 ≤ 3) → Q (-4) S3 V3))))) ∧ (¬ (z3 ≠ 0) → Q (-1) S3 V3))))) : XJ l G bX11_join Q d 0 [vr x0, vi x1, vi x2, vi x3, vu, vu] [] S V mc ms := by
  refine X_aload_n dX11_join_0 rfl ?_
  refine X_iload_n dX11_join_1 rfl ?_
  refine X_invV (ci := 11) (as := [vi x1]) (st := []) okX11_setAt dX11_join_2 km_RX11_223 rfl rfl (Nat.le_of_ble_eq_true rfl) rfl rfl h.1 (CT.imp h.2 (fun z1 S1 V1 mc1 ms1 hc2 => ?_))
  refine X_astore dX11_join_5 (by decide) rfl ?_
  refine X_aload_n dX11_join_7 rfl ?_
  refine X_iload_n dX11_join_8 rfl ?_
  refine X_invV (ci := 11) (as := [vi x2]) (st := []) okX11_setAt dX11_join_9 km_RX11_223 rfl rfl (Nat.le_of_ble_eq_true rfl) rfl rfl hc2.1 (CT.imp hc2.2 (fun z3 S3 V3 mc3 ms3 hc4 => ?_))
  refine X_astore dX11_join_12 (by decide) rfl ?_
  refine X_aload dX11_join_14 rfl ?_
  refine X_ifnull dX11_join_16 (tgt := 24) rfl (fun c5 => ?_) (fun c5 => ?_)
  · refine X_iconst dX11_join_24 (by decide) ?_
    exact X_ret (z := (-1)) dX11_join_25 rfl (fun hv => vok_h hv) (hc4.1 c5)
  · refine X_aload dX11_join_19 rfl ?_
    refine X_ifnonnull dX11_join_21 (tgt := 26) rfl (fun c6 => ?_) (fun c6 => ?_)
    · refine X_aload dX11_join_26 rfl ?_
      refine X_getfield (ci := 6) (k := 0) (v := vi (V3 z1 0)) dX11_join_28 rfl (by decide) kf_RX11_237 rfl ((hc4.2 c5).1 c6).1 ?_
      refine X_aload dX11_join_31 rfl ?_
      refine X_getfield (ci := 6) (k := 0) (v := vi (V3 z3 0)) dX11_join_33 rfl (by decide) kf_RX11_237 rfl ((hc4.2 c5).1 c6).2.1 ?_
      refine X_icmp_ne dX11_join_36 (tgt := 61) rfl (fun c7 => ?_) (fun c7 => ?_)
      · refine X_bipush dX11_join_61 (by decide) (by decide) ?_
        exact X_ret (z := (-4)) dX11_join_63 rfl (fun hv => vok_h hv) (((hc4.2 c5).1 c6).2.2.1 c7)
      · refine X_aload dX11_join_39 rfl ?_
        refine X_getfield (ci := 6) (k := 1) (v := vi (V3 z1 1)) dX11_join_41 rfl (by decide) kf_RX11_240 rfl ((hc4.2 c5).1 c6).1 ?_
        refine X_aload dX11_join_44 rfl ?_
        refine X_getfield (ci := 6) (k := 1) (v := vi (V3 z3 1)) dX11_join_46 rfl (by decide) kf_RX11_240 rfl ((hc4.2 c5).1 c6).2.1 ?_
        refine X_icmp_ne dX11_join_49 (tgt := 61) rfl (fun c8 => ?_) (fun c8 => ?_)
        · refine X_bipush dX11_join_61 (by decide) (by decide) ?_
          exact X_ret (z := (-4)) dX11_join_63 rfl (fun hv => vok_h hv) ((((hc4.2 c5).1 c6).2.2.2 c7).1 c8)
        · refine X_iload_n dX11_join_52 rfl ?_
          refine X_if_lt dX11_join_53 (tgt := 61) rfl (fun c9 => ?_) (fun c9 => ?_)
          · refine X_bipush dX11_join_61 (by decide) (by decide) ?_
            exact X_ret (z := (-4)) dX11_join_63 rfl (fun hv => vok_h hv) (((((hc4.2 c5).1 c6).2.2.2 c7).2 c8).1 c9)
          · refine X_iload_n dX11_join_56 rfl ?_
            refine X_iconst dX11_join_57 (by decide) ?_
            refine X_icmp_le dX11_join_58 (tgt := 64) rfl (fun c10 => ?_) (fun c10 => ?_)
            · refine X_aload_n dX11_join_64 rfl ?_
              refine X_getfield (ci := 11) (k := 10) (v := vi (V3 x0 10)) dX11_join_65 rfl (by decide) kf_RX11_213 rfl ((((((hc4.2 c5).1 c6).2.2.2 c7).2 c8).2 c9).1 c10).1 ?_
              refine X_bipush dX11_join_68 (by decide) (by decide) ?_
              refine X_icmp_lt dX11_join_70 (tgt := 76) rfl (fun c11 => ?_) (fun c11 => ?_)
              · refine X_aload_n dX11_join_76 rfl ?_
                refine X_newT (t := 7) (ci := 6) rfl dX11_join_77 rfl ⟨kc_RX11_42, kn_6⟩ kd_6 (((((((hc4.2 c5).1 c6).2.2.2 c7).2 c8).2 c9).1 c10).2.1 c11).1 (((((((hc4.2 c5).1 c6).2.2.2 c7).2 c8).2 c9).1 c10).2.1 c11).2.1 ?_
                generalize hShn13 : nw S3 7 0 = S12
                generalize hVhn13 : clr V3 (S3.2.2 + 1) = V12
                generalize hrhn13 : S3.2.2 + 1 = r12 at hVhn13 ⊢
                generalize hmhn13 : mc3 - 1 = mc12
                generalize hkhn13 : ms3 - 4 = ms12
                have hn13 := (((((((hc4.2 c5).1 c6).2.2.2 c7).2 c8).2 c9).1 c10).2.1 c11).2.2 S12 V12 r12 mc12 ms12 hrhn13.symm hShn13.symm hVhn13.symm hmhn13.symm hkhn13.symm
                refine X_dup dX11_join_80 (rv_cat _) ?_
                refine X_aload dX11_join_81 rfl ?_
                refine X_getfield (ci := 6) (k := 0) (v := vi (V12 z1 0)) dX11_join_83 rfl (by decide) kf_RX11_237 rfl hn13.1 ?_
                refine X_aload dX11_join_86 rfl ?_
                refine X_getfield (ci := 6) (k := 1) (v := vi (V12 z1 1)) dX11_join_88 rfl (by decide) kf_RX11_240 rfl hn13.1 ?_
                refine X_aload dX11_join_91 rfl ?_
                refine X_getfield (ci := 6) (k := 2) (v := vi (V12 z1 2)) dX11_join_93 rfl (by decide) kf_RX11_243 rfl hn13.1 ?_
                refine X_aload dX11_join_96 rfl ?_
                refine X_getfield (ci := 6) (k := 2) (v := vi (V12 z3 2)) dX11_join_98 rfl (by decide) kf_RX11_243 rfl hn13.2.1 ?_
                refine X_iload_n dX11_join_101 rfl ?_
                refine X_invS8 (as := [vi (V12 z1 2), vi (V12 z3 2), vi x3]) (st := [vi (V12 z1 1), vi (V12 z1 0), vr r12, vr r12, vr x0]) okX11_joined dX11_join_102 km_RX11_246 rfl rfl (by simp only [List.map_cons, List.map_nil, List.sum_cons, List.sum_nil, cat_vi, cat_vr]; decide) (CT.imp hn13.2.2 (fun z14 S14 V14 mc14 ms14 hc15 => ?_))
                refine X_invI (as := [vi (V12 z1 0), vi (V12 z1 1), vi z14]) (st := [vr r12, vr x0]) okX6_init dX11_join_105 km_RX11_216 rfl rfl (Nat.le_of_ble_eq_true rfl) hc15.1 (CT.imp hc15.2 (fun z16 S16 V16 mc16 ms16 hc17 => ?_))
                refine X_invV (ci := 11) (as := [vr r12]) (st := []) okX11_keepSet dX11_join_108 km_RX11_219 rfl rfl (Nat.le_of_ble_eq_true rfl) rfl rfl hc17.1 (CT.imp hc17.2 (fun z18 S18 V18 mc18 ms18 hc19 => ?_))
                exact X_ret (z := z18) dX11_join_111 rfl (fun hv => vok_h hv) hc19
              · refine X_bipush dX11_join_73 (by decide) (by decide) ?_
                exact X_ret (z := (-2)) dX11_join_75 rfl (fun hv => vok_h hv) (((((((hc4.2 c5).1 c6).2.2.2 c7).2 c8).2 c9).1 c10).2.2 c11)
            · refine X_bipush dX11_join_61 (by decide) (by decide) ?_
              exact X_ret (z := (-4)) dX11_join_63 rfl (fun hv => vok_h hv) ((((((hc4.2 c5).1 c6).2.2.2 c7).2 c8).2 c9).2 c10)
    · refine X_iconst dX11_join_24 (by decide) ?_
      exact X_ret (z := (-1)) dX11_join_25 rfl (fun hv => vok_h hv) ((hc4.2 c5).2 c6)
theorem qX11_join {l : Launch} {G : GT} {Q : Int → Sh → Mem → Prop} {d : Nat} {S : Sh} {V : Mem} {mc ms : Nat} {x0 x1 x2 x3 : Int} (h : 0 ≤ x0 → inI x1 → inI x2 → inI x3 → XJ l G bX11_join Q d 0 [vr x0, vi x1, vi x2, vi x3, vu, vu] [] S V mc ms) : Ct l G bX11_join Q d mc ms [vr x0, vi x1, vi x2, vi x3] S V := Ct.of okX11_join.1 trivial (Nat.le_of_ble_eq_true rfl) (fun hv => h (hv _ (List.mem_of_getElem? (i := 0) rfl)) (hv _ (List.mem_of_getElem? (i := 1) rfl)) (hv _ (List.mem_of_getElem? (i := 2) rfl)) (hv _ (List.mem_of_getElem? (i := 3) rfl)))
set_option maxRecDepth 10000 in
theorem vX11_member_0 {l : Launch} {G : GT} {Q : Int → Sh → Mem → Prop} {d : Nat} {S : Sh} {V : Mem} {mc ms : Nat} {x0 x1 x2 : Int} (h : S.1 x0 = 12 ∧ CT l G bX11_setAt d mc ms [vr x0, vi x1] S V (fun z1 S1 V1 mc1 ms1 => (z1 ≠ 0 → (x2 ≠ (-1) → S1.1 z1 = 7 ∧ CT l G bX6_ordinalAt d mc1 ms1 [vr z1, vi x2] S1 V1 (fun z5 S5 V5 mc5 ms5 => Q z5 S5 V5)) ∧ (¬ (x2 ≠ (-1)) → S1.1 z1 = 7 ∧ CT l G bJ6_bitCount_0f7a4 d mc1 ms1 [vi (V1 z1 2)] S1 V1 (fun z7 S7 V7 mc7 ms7 => Q z7 S7 V7))) ∧ (¬ (z1 ≠ 0) → Q (-1) S1 V1))) : XJ l G bX11_member Q d 0 [vr x0, vi x1, vi x2, vu] [] S V mc ms := by
  refine X_aload_n dX11_member_0 rfl ?_
  refine X_iload_n dX11_member_1 rfl ?_
  refine X_invV (ci := 11) (as := [vi x1]) (st := []) okX11_setAt dX11_member_2 km_RX11_223 rfl rfl (Nat.le_of_ble_eq_true rfl) rfl rfl h.1 (CT.imp h.2 (fun z1 S1 V1 mc1 ms1 hc2 => ?_))
  refine X_astore_n dX11_member_5 (by decide) rfl ?_
  refine X_aload_n dX11_member_6 rfl ?_
  refine X_ifnonnull dX11_member_7 (tgt := 12) rfl (fun c3 => ?_) (fun c3 => ?_)
  · refine X_iload_n dX11_member_12 rfl ?_
    refine X_iconst dX11_member_13 (by decide) ?_
    refine X_icmp_ne dX11_member_14 (tgt := 27) rfl (fun c4 => ?_) (fun c4 => ?_)
    · refine X_aload_n dX11_member_27 rfl ?_
      refine X_iload_n dX11_member_28 rfl ?_
      refine X_invV (ci := 6) (as := [vi x2]) (st := []) okX6_ordinalAt dX11_member_29 km_RX11_255 rfl rfl (Nat.le_of_ble_eq_true rfl) rfl rfl ((hc2.1 c3).1 c4).1 (CT.imp ((hc2.1 c3).1 c4).2 (fun z5 S5 V5 mc5 ms5 hc6 => ?_))
      exact X_ret (z := z5) dX11_member_32 rfl (fun hv => vok_h hv) hc6
    · refine X_aload_n dX11_member_17 rfl ?_
      refine X_getfield (ci := 6) (k := 2) (v := vi (V1 z1 2)) dX11_member_18 rfl (by decide) kf_RX11_243 rfl ((hc2.1 c3).2 c4).1 ?_
      refine X_invS (as := [vi (V1 z1 2)]) (st := []) okJ6_bitCount_0f7a4 dX11_member_21 km_RX11_250 rfl rfl (Nat.le_of_ble_eq_true rfl) (CT.imp ((hc2.1 c3).2 c4).2 (fun z7 S7 V7 mc7 ms7 hc8 => ?_))
      refine X_goto dX11_member_24 (tgt := 32) rfl ?_
      exact X_ret (z := z7) dX11_member_32 rfl (fun hv => vok_h hv) hc8
  · refine X_iconst dX11_member_10 (by decide) ?_
    exact X_ret (z := (-1)) dX11_member_11 rfl (fun hv => vok_h hv) (hc2.2 c3)
theorem qX11_member {l : Launch} {G : GT} {Q : Int → Sh → Mem → Prop} {d : Nat} {S : Sh} {V : Mem} {mc ms : Nat} {x0 x1 x2 : Int} (h : 0 ≤ x0 → inI x1 → inI x2 → XJ l G bX11_member Q d 0 [vr x0, vi x1, vi x2, vu] [] S V mc ms) : Ct l G bX11_member Q d mc ms [vr x0, vi x1, vi x2] S V := Ct.of okX11_member.1 trivial (Nat.le_of_ble_eq_true rfl) (fun hv => h (hv _ (List.mem_of_getElem? (i := 0) rfl)) (hv _ (List.mem_of_getElem? (i := 1) rfl)) (hv _ (List.mem_of_getElem? (i := 2) rfl)))
set_option maxRecDepth 10000 in
theorem vX11_map_0 {l : Launch} {G : GT} {Q : Int → Sh → Mem → Prop} {d : Nat} {S : Sh} {V : Mem} {mc ms : Nat} {x0 x1 x2 : Int} (h : S.1 x0 = 12 ∧ CT l G bX11_enumOf d mc ms [vr x0, vi x1, vi x2] S V (fun z1 S1 V1 mc1 ms1 => (z1 ≠ 0 → S1.1 x0 = 12 ∧ ((V1 x0 12) < 10 → CT l G bX11_usedWell d mc1 ms1 [vr x0, vi x1, vi x2] S1 V1 (fun z5 S5 V5 mc5 ms5 => (z5 ≠ 0 → 1 ≤ mc5 ∧ 4 ≤ ms5 ∧ (∀ (S8 : Sh) (V8 : Mem) (r8 : Int) (mc8 ms8 : Nat), r8 = S5.2.2 + 1 → S8 = nw S5 7 0 → V8 = clr V5 r8 → mc8 = mc5 - 1 → ms8 = ms5 - 4 → r8 ≠ 0 ∧ CT l G bX6_init d mc8 ms8 [vr r8, vi x1, vi x2, vi 0] S8 V8 (fun z10 S10 V10 mc10 ms10 => 0 ≤ (24 : Int) ∧ (24 : Int) ≤ 60000 ∧ 1 ≤ mc10 ∧ (24 : Int).toNat ≤ ms10 ∧ (∀ (S12 : Sh) (V12 : Mem) (r12 : Int) (mc12 ms12 : Nat), r12 = S10.2.2 + 1 → S12 = nw S10 20 24 → V12 = clr V10 r12 → mc12 = mc10 - 1 → ms12 = ms10 - (24 : Int).toNat → S12.1 r8 = 7 ∧ S12.1 x0 = 12 ∧ S12.1 (V12 x0 11) = 36 ∧ 0 ≤ (V12 x0 12) ∧ (V12 x0 12) < S12.2.1 (V12 x0 11) ∧ -2147483648 ≤ (V12 x0 12) + 1 ∧ (V12 x0 12) + 1 ≤ 2147483647 ∧ -2147483648 ≤ ((V12 x0 12) + 1) - 1 ∧ ((V12 x0 12) + 1) - 1 ≤ 2147483647 ∧ Q (((V12 x0 12) + 1) - 1) S12 (up (up (up V12 r8 3 r12) (V12 x0 11) (V12 x0 12) r8) x0 12 ((V12 x0 12) + 1)))))) ∧ (¬ (z5 ≠ 0) → Q (-3) S5 V5))) ∧ (¬ ((V1 x0 12) < 10) → Q (-2) S1 V1)) ∧ (¬ (z1 ≠ 0) → Q (-1) S1 V1))) : XJ l G bX11_map Q d 0 [vr x0, vi x1, vi x2, vu] [] S V mc ms := by
  refine X_aload_n dX11_map_0 rfl ?_
  refine X_iload_n dX11_map_1 rfl ?_
  refine X_iload_n dX11_map_2 rfl ?_
  refine X_invV (ci := 11) (as := [vi x1, vi x2]) (st := []) okX11_enumOf dX11_map_3 km_RX11_106 rfl rfl (Nat.le_of_ble_eq_true rfl) rfl rfl h.1 (CT.imp h.2 (fun z1 S1 V1 mc1 ms1 hc2 => ?_))
  refine X_ifnonnull dX11_map_6 (tgt := 11) rfl (fun c3 => ?_) (fun c3 => ?_)
  · refine X_aload_n dX11_map_11 rfl ?_
    refine X_getfield (ci := 11) (k := 12) (v := vi (V1 x0 12)) dX11_map_12 rfl (by decide) kf_RX11_258 rfl (hc2.1 c3).1 ?_
    refine X_bipush dX11_map_15 (by decide) (by decide) ?_
    refine X_icmp_lt dX11_map_17 (tgt := 23) rfl (fun c4 => ?_) (fun c4 => ?_)
    · refine X_aload_n dX11_map_23 rfl ?_
      refine X_iload_n dX11_map_24 rfl ?_
      refine X_iload_n dX11_map_25 rfl ?_
      refine X_invV (ci := 11) (as := [vi x1, vi x2]) (st := []) okX11_usedWell dX11_map_26 km_RX11_159 rfl rfl (Nat.le_of_ble_eq_true rfl) rfl rfl (hc2.1 c3).1 (CT.imp ((hc2.1 c3).2.1 c4) (fun z5 S5 V5 mc5 ms5 hc6 => ?_))
      refine X_if_ne dX11_map_29 (tgt := 35) rfl (fun c7 => ?_) (fun c7 => ?_)
      · refine X_newT (t := 7) (ci := 6) rfl dX11_map_35 rfl ⟨kc_RX11_42, kn_6⟩ kd_6 (hc6.1 c7).1 (hc6.1 c7).2.1 ?_
        generalize hShn9 : nw S5 7 0 = S8
        generalize hVhn9 : clr V5 (S5.2.2 + 1) = V8
        generalize hrhn9 : S5.2.2 + 1 = r8 at hVhn9 ⊢
        generalize hmhn9 : mc5 - 1 = mc8
        generalize hkhn9 : ms5 - 4 = ms8
        have hn9 := (hc6.1 c7).2.2 S8 V8 r8 mc8 ms8 hrhn9.symm hShn9.symm hVhn9.symm hmhn9.symm hkhn9.symm
        refine X_dup dX11_map_38 (rv_cat _) ?_
        refine X_iload_n dX11_map_39 rfl ?_
        refine X_iload_n dX11_map_40 rfl ?_
        refine X_iconst dX11_map_41 (by decide) ?_
        refine X_invI (as := [vi x1, vi x2, vi 0]) (st := [vr r8]) okX6_init dX11_map_42 km_RX11_216 rfl rfl (Nat.le_of_ble_eq_true rfl) hn9.1 (CT.imp hn9.2 (fun z10 S10 V10 mc10 ms10 hc11 => ?_))
        refine X_astore_n dX11_map_45 (by decide) rfl ?_
        refine X_aload_n dX11_map_46 rfl ?_
        refine X_bipush dX11_map_47 (by decide) (by decide) ?_
        refine X_newarr (t := 20) dX11_map_49 k_arr.1 rfl (by decide) (by decide) hc11.1 hc11.2.1 hc11.2.2.1 hc11.2.2.2.1 ?_
        generalize hShn13 : nw S10 20 24 = S12
        generalize hVhn13 : clr V10 (S10.2.2 + 1) = V12
        generalize hrhn13 : S10.2.2 + 1 = r12 at hVhn13 ⊢
        generalize hmhn13 : mc10 - 1 = mc12
        generalize hkhn13 : ms10 - (24 : Int).toNat = ms12
        have hn13 := hc11.2.2.2.2 S12 V12 r12 mc12 ms12 hrhn13.symm hShn13.symm hVhn13.symm hmhn13.symm hkhn13.symm
        refine X_putfield (ci := 6) (k := 3) (z := r12) dX11_map_51 rfl (by decide) kf_RX11_261 (Or.inr (Or.inr (Or.inr (Or.inr ⟨_, rfl⟩)))) (Or.inl rfl) rfl (fun hv => hv) hn13.1 ?_
        refine X_aload_n dX11_map_54 rfl ?_
        refine X_getfield (ci := 11) (k := 11) (v := vr (V12 x0 11)) dX11_map_55 rfl (by decide) kf_RX11_48 (congrArg vr (up_ne (Or.inl (tag_ne hn13.2.1 hn13.1 (by decide))))) hn13.2.1 ?_
        refine X_aload_n dX11_map_58 rfl ?_
        refine X_getfield (ci := 11) (k := 12) (v := vi (V12 x0 12)) dX11_map_59 rfl (by decide) kf_RX11_258 (congrArg vi (up_ne (Or.inl (tag_ne hn13.2.1 hn13.1 (by decide))))) hn13.2.1 ?_
        refine X_aload_n dX11_map_62 rfl ?_
        refine X_aastore (ci := 6) (t := 36) rfl dX11_map_63 (by decide) rfl hn13.2.2.1 hn13.1 hn13.2.2.2.1 hn13.2.2.2.2.1 ?_
        refine X_aload_n dX11_map_64 rfl ?_
        refine X_dup dX11_map_65 (rv_cat _) ?_
        refine X_getfield (ci := 11) (k := 12) (v := vi (V12 x0 12)) dX11_map_66 rfl (by decide) kf_RX11_258 (congrArg vi ((up_ne (Or.inl (tag_ne hn13.2.1 hn13.2.2.1 (by decide)))).trans (up_ne (Or.inl (tag_ne hn13.2.1 hn13.1 (by decide)))))) hn13.2.1 ?_
        refine X_iconst dX11_map_69 (by decide) ?_
        refine X_iaddN dX11_map_70 hn13.2.2.2.2.2.1 hn13.2.2.2.2.2.2.1 ?_
        refine X_putfield (ci := 11) (k := 12) (z := ((V12 x0 12) + 1)) dX11_map_71 rfl (by decide) kf_RX11_258 (Or.inl rfl) (Or.inl rfl) rfl (fun hv => hv) hn13.2.1 ?_
        refine X_aload_n dX11_map_74 rfl ?_
        refine X_getfield (ci := 11) (k := 12) (v := vi ((V12 x0 12) + 1)) dX11_map_75 rfl (by decide) kf_RX11_258 (congrArg vi up_eq) hn13.2.1 ?_
        refine X_iconst dX11_map_78 (by decide) ?_
        refine X_isubN dX11_map_79 hn13.2.2.2.2.2.2.2.1 hn13.2.2.2.2.2.2.2.2.1 ?_
        exact X_ret (z := (((V12 x0 12) + 1) - 1)) dX11_map_80 rfl (fun hv => vok_h hv) hn13.2.2.2.2.2.2.2.2.2
      · refine X_bipush dX11_map_32 (by decide) (by decide) ?_
        exact X_ret (z := (-3)) dX11_map_34 rfl (fun hv => vok_h hv) (hc6.2 c7)
    · refine X_bipush dX11_map_20 (by decide) (by decide) ?_
      exact X_ret (z := (-2)) dX11_map_22 rfl (fun hv => vok_h hv) ((hc2.1 c3).2.2 c4)
  · refine X_iconst dX11_map_9 (by decide) ?_
    exact X_ret (z := (-1)) dX11_map_10 rfl (fun hv => vok_h hv) (hc2.2 c3)
theorem qX11_map {l : Launch} {G : GT} {Q : Int → Sh → Mem → Prop} {d : Nat} {S : Sh} {V : Mem} {mc ms : Nat} {x0 x1 x2 : Int} (h : 0 ≤ x0 → inI x1 → inI x2 → XJ l G bX11_map Q d 0 [vr x0, vi x1, vi x2, vu] [] S V mc ms) : Ct l G bX11_map Q d mc ms [vr x0, vi x1, vi x2] S V := Ct.of okX11_map.1 trivial (Nat.le_of_ble_eq_true rfl) (fun hv => h (hv _ (List.mem_of_getElem? (i := 0) rfl)) (hv _ (List.mem_of_getElem? (i := 1) rfl)) (hv _ (List.mem_of_getElem? (i := 2) rfl)))
set_option maxRecDepth 10000 in
theorem vX11_put_0 {l : Launch} {G : GT} {Q : Int → Sh → Mem → Prop} {d : Nat} {S : Sh} {V : Mem} {mc ms : Nat} {x0 x1 x2 x3 : Int} (h : S.1 x0 = 12 ∧ CT l G bX11_mapAt d mc ms [vr x0, vi x1] S V (fun z1 S1 V1 mc1 ms1 => (z1 = 0 → Q (-1) S1 V1) ∧ (¬ (z1 = 0) → S1.1 x0 = 12 ∧ CT l G bX11_isConstant d mc1 ms1 [vr x0, vr z1, vi x2] S1 V1 (fun z4 S4 V4 mc4 ms4 => (z4 ≠ 0 → S4.1 z1 = 7 ∧ S4.1 (V4 z1 3) = 20 ∧ 0 ≤ x2 ∧ x2 < S4.2.1 (V4 z1 3) ∧ CT l G bX6_include d mc4 ms4 [vr z1, vi x2] S4 (up V4 (V4 z1 3) x2 x3) (fun z7 S7 V7 mc7 ms7 => (z7 = 0 → Q 0 S7 V7) ∧ (¬ (z7 = 0) → Q 1 S7 V7))) ∧ (¬ (z4 ≠ 0) → Q (-1) S4 V4))))) : XJ l G bX11_put Q d 0 [vr x0, vi x1, vi x2, vi x3, vu] [] S V mc ms := by
  refine X_aload_n dX11_put_0 rfl ?_
  refine X_iload_n dX11_put_1 rfl ?_
  refine X_invV (ci := 11) (as := [vi x1]) (st := []) okX11_mapAt dX11_put_2 km_RX11_264 rfl rfl (Nat.le_of_ble_eq_true rfl) rfl rfl h.1 (CT.imp h.2 (fun z1 S1 V1 mc1 ms1 hc2 => ?_))
  refine X_astore dX11_put_5 (by decide) rfl ?_
  refine X_aload dX11_put_7 rfl ?_
  refine X_ifnull dX11_put_9 (tgt := 22) rfl (fun c3 => ?_) (fun c3 => ?_)
  · refine X_iconst dX11_put_22 (by decide) ?_
    exact X_ret (z := (-1)) dX11_put_23 rfl (fun hv => vok_h hv) (hc2.1 c3)
  · refine X_aload_n dX11_put_12 rfl ?_
    refine X_aload dX11_put_13 rfl ?_
    refine X_iload_n dX11_put_15 rfl ?_
    refine X_invV (ci := 11) (as := [vr z1, vi x2]) (st := []) okX11_isConstant dX11_put_16 km_RX11_227 rfl rfl (Nat.le_of_ble_eq_true rfl) rfl rfl (hc2.2 c3).1 (CT.imp (hc2.2 c3).2 (fun z4 S4 V4 mc4 ms4 hc5 => ?_))
    refine X_if_ne dX11_put_19 (tgt := 24) rfl (fun c6 => ?_) (fun c6 => ?_)
    · refine X_aload dX11_put_24 rfl ?_
      refine X_getfield (ci := 6) (k := 3) (v := vr (V4 z1 3)) dX11_put_26 rfl (by decide) kf_RX11_261 rfl (hc5.1 c6).1 ?_
      refine X_iload_n dX11_put_29 rfl ?_
      refine X_iload_n dX11_put_30 rfl ?_
      refine X_iastore dX11_put_31 (hc5.1 c6).2.1 (hc5.1 c6).2.2.1 (hc5.1 c6).2.2.2.1 ?_
      refine X_aload dX11_put_32 rfl ?_
      refine X_iload_n dX11_put_34 rfl ?_
      refine X_invV (ci := 6) (as := [vi x2]) (st := []) okX6_include dX11_put_35 km_RX11_231 rfl rfl (Nat.le_of_ble_eq_true rfl) rfl rfl (hc5.1 c6).1 (CT.imp (hc5.1 c6).2.2.2.2 (fun z7 S7 V7 mc7 ms7 hc8 => ?_))
      refine X_if_eq dX11_put_38 (tgt := 45) rfl (fun c9 => ?_) (fun c9 => ?_)
      · refine X_iconst dX11_put_45 (by decide) ?_
        exact X_ret (z := 0) dX11_put_46 rfl (fun hv => vok_h hv) (hc8.1 c9)
      · refine X_iconst dX11_put_41 (by decide) ?_
        refine X_goto dX11_put_42 (tgt := 46) rfl ?_
        exact X_ret (z := 1) dX11_put_46 rfl (fun hv => vok_h hv) (hc8.2 c9)
    · refine X_iconst dX11_put_22 (by decide) ?_
      exact X_ret (z := (-1)) dX11_put_23 rfl (fun hv => vok_h hv) (hc5.2 c6)
theorem qX11_put {l : Launch} {G : GT} {Q : Int → Sh → Mem → Prop} {d : Nat} {S : Sh} {V : Mem} {mc ms : Nat} {x0 x1 x2 x3 : Int} (h : 0 ≤ x0 → inI x1 → inI x2 → inI x3 → XJ l G bX11_put Q d 0 [vr x0, vi x1, vi x2, vi x3, vu] [] S V mc ms) : Ct l G bX11_put Q d mc ms [vr x0, vi x1, vi x2, vi x3] S V := Ct.of okX11_put.1 trivial (Nat.le_of_ble_eq_true rfl) (fun hv => h (hv _ (List.mem_of_getElem? (i := 0) rfl)) (hv _ (List.mem_of_getElem? (i := 1) rfl)) (hv _ (List.mem_of_getElem? (i := 2) rfl)) (hv _ (List.mem_of_getElem? (i := 3) rfl)))
set_option maxRecDepth 10000 in
theorem vX11_get_0 {l : Launch} {G : GT} {Q : Int → Sh → Mem → Prop} {d : Nat} {S : Sh} {V : Mem} {mc ms : Nat} {x0 x1 x2 : Int} (h : S.1 x0 = 12 ∧ CT l G bX11_mapAt d mc ms [vr x0, vi x1] S V (fun z1 S1 V1 mc1 ms1 => (z1 = 0 → Q (-1) S1 V1) ∧ (¬ (z1 = 0) → S1.1 x0 = 12 ∧ CT l G bX11_isConstant d mc1 ms1 [vr x0, vr z1, vi x2] S1 V1 (fun z4 S4 V4 mc4 ms4 => (z4 ≠ 0 → S4.1 z1 = 7 ∧ CT l G bX6_contains d mc4 ms4 [vr z1, vi x2] S4 V4 (fun z7 S7 V7 mc7 ms7 => (z7 ≠ 0 → S7.1 z1 = 7 ∧ S7.1 (V7 z1 3) = 20 ∧ 0 ≤ x2 ∧ x2 < S7.2.1 (V7 z1 3) ∧ S7.1 x0 = 12 ∧ Q 1 S7 (up V7 x0 8 (V7 (V7 z1 3) x2))) ∧ (¬ (z7 ≠ 0) → Q 0 S7 V7))) ∧ (¬ (z4 ≠ 0) → Q (-1) S4 V4))))) : XJ l G bX11_get Q d 0 [vr x0, vi x1, vi x2, vu] [] S V mc ms := by
  refine X_aload_n dX11_get_0 rfl ?_
  refine X_iload_n dX11_get_1 rfl ?_
  refine X_invV (ci := 11) (as := [vi x1]) (st := []) okX11_mapAt dX11_get_2 km_RX11_264 rfl rfl (Nat.le_of_ble_eq_true rfl) rfl rfl h.1 (CT.imp h.2 (fun z1 S1 V1 mc1 ms1 hc2 => ?_))
  refine X_astore_n dX11_get_5 (by decide) rfl ?_
  refine X_aload_n dX11_get_6 rfl ?_
  refine X_ifnull dX11_get_7 (tgt := 19) rfl (fun c3 => ?_) (fun c3 => ?_)
  · refine X_iconst dX11_get_19 (by decide) ?_
    exact X_ret (z := (-1)) dX11_get_20 rfl (fun hv => vok_h hv) (hc2.1 c3)
  · refine X_aload_n dX11_get_10 rfl ?_
    refine X_aload_n dX11_get_11 rfl ?_
    refine X_iload_n dX11_get_12 rfl ?_
    refine X_invV (ci := 11) (as := [vr z1, vi x2]) (st := []) okX11_isConstant dX11_get_13 km_RX11_227 rfl rfl (Nat.le_of_ble_eq_true rfl) rfl rfl (hc2.2 c3).1 (CT.imp (hc2.2 c3).2 (fun z4 S4 V4 mc4 ms4 hc5 => ?_))
    refine X_if_ne dX11_get_16 (tgt := 21) rfl (fun c6 => ?_) (fun c6 => ?_)
    · refine X_aload_n dX11_get_21 rfl ?_
      refine X_iload_n dX11_get_22 rfl ?_
      refine X_invV (ci := 6) (as := [vi x2]) (st := []) okX6_contains dX11_get_23 km_RX11_267 rfl rfl (Nat.le_of_ble_eq_true rfl) rfl rfl (hc5.1 c6).1 (CT.imp (hc5.1 c6).2 (fun z7 S7 V7 mc7 ms7 hc8 => ?_))
      refine X_if_ne dX11_get_26 (tgt := 31) rfl (fun c9 => ?_) (fun c9 => ?_)
      · refine X_aload_n dX11_get_31 rfl ?_
        refine X_aload_n dX11_get_32 rfl ?_
        refine X_getfield (ci := 6) (k := 3) (v := vr (V7 z1 3)) dX11_get_33 rfl (by decide) kf_RX11_261 rfl (hc8.1 c9).1 ?_
        refine X_iload_n dX11_get_36 rfl ?_
        refine X_iaload dX11_get_37 (hc8.1 c9).2.1 (hc8.1 c9).2.2.1 (hc8.1 c9).2.2.2.1 ?_
        refine X_putfield (ci := 11) (k := 8) (z := (V7 (V7 z1 3) x2)) dX11_get_38 rfl (by decide) kf_RX11_165 (Or.inl rfl) (Or.inl rfl) rfl (fun hv => hv) (hc8.1 c9).2.2.2.2.1 ?_
        refine X_iconst dX11_get_41 (by decide) ?_
        exact X_ret (z := 1) dX11_get_42 rfl (fun hv => vok_h hv) (hc8.1 c9).2.2.2.2.2
      · refine X_iconst dX11_get_29 (by decide) ?_
        exact X_ret (z := 0) dX11_get_30 rfl (fun hv => vok_h hv) (hc8.2 c9)
    · refine X_iconst dX11_get_19 (by decide) ?_
      exact X_ret (z := (-1)) dX11_get_20 rfl (fun hv => vok_h hv) (hc5.2 c6)
theorem qX11_get {l : Launch} {G : GT} {Q : Int → Sh → Mem → Prop} {d : Nat} {S : Sh} {V : Mem} {mc ms : Nat} {x0 x1 x2 : Int} (h : 0 ≤ x0 → inI x1 → inI x2 → XJ l G bX11_get Q d 0 [vr x0, vi x1, vi x2, vu] [] S V mc ms) : Ct l G bX11_get Q d mc ms [vr x0, vi x1, vi x2] S V := Ct.of okX11_get.1 trivial (Nat.le_of_ble_eq_true rfl) (fun hv => h (hv _ (List.mem_of_getElem? (i := 0) rfl)) (hv _ (List.mem_of_getElem? (i := 1) rfl)) (hv _ (List.mem_of_getElem? (i := 2) rfl)))
set_option maxRecDepth 10000 in
theorem vX11_encode_0 {l : Launch} {G : GT} {Q : Int → Sh → Mem → Prop} {d : Nat} {S : Sh} {V : Mem} {mc ms : Nat} {x0 x1 : Int} (h : S.1 x0 = 12 ∧ CT l G bX11_bookAt d mc ms [vr x0, vi x1] S V (fun z1 S1 V1 mc1 ms1 => (z1 ≠ 0 → S1.1 x0 = 12 ∧ ((V1 x0 14) < 20 → S1.1 (V1 x0 2) = 10 ∧ CT l G bX9_cutUp d mc1 ms1 [vr (V1 x0 2), vr (V1 x0 0), vi (V1 x0 1)] S1 V1 (fun z5 S5 V5 mc5 ms5 => S5.1 x0 = 12 ∧ S5.1 (V5 x0 15) = 5 ∧ CT l G bX4_readFrom d mc5 ms5 [vr (V5 x0 15), vr (V5 x0 2), vr z1] S5 (up V5 x0 1 0) (fun z7 S7 V7 mc7 ms7 => (z7 < 0 → S7.1 x0 = 12 ∧ S7.1 (V7 x0 15) = 5 ∧ S7.1 (V7 x0 13) = 34 ∧ 0 ≤ (V7 x0 14) ∧ (V7 x0 14) < S7.2.1 (V7 x0 13) ∧ -2147483648 ≤ (V7 x0 14) + 1 ∧ (V7 x0 14) + 1 ≤ 2147483647 ∧ 1 ≤ mc7 ∧ 5 ≤ ms7 ∧ (∀ (S10 : Sh) (V10 : Mem) (r10 : Int) (mc10 ms10 : Nat), r10 = S7.2.2 + 1 → S10 = nw S7 5 0 → V10 = clr (up (up (up V7 (V7 x0 15) 0 x1) (V7 x0 13) (V7 x0 14) (V7 x0 15)) x0 14 ((V7 x0 14) + 1)) r10 → mc10 = mc7 - 1 → ms10 = ms7 - 5 → r10 ≠ 0 ∧ CT l G bX4_init d mc10 ms10 [vr r10] S10 V10 (fun z12 S12 V12 mc12 ms12 => S12.1 x0 = 12 ∧ -2147483648 ≤ (V12 x0 14) - 1 ∧ (V12 x0 14) - 1 ≤ 2147483647 ∧ Q ((V12 x0 14) - 1) S12 (up V12 x0 15 r10)))) ∧ (¬ (z7 < 0) → S7.1 x0 = 12 ∧ S7.1 (V7 x0 2) = 10 ∧ S7.1 (V7 (V7 x0 2) 1) = 20 ∧ 0 ≤ z7 ∧ z7 < S7.2.1 (V7 (V7 x0 2) 1) ∧ -2147483648 ≤ (-10) - (V7 (V7 (V7 x0 2) 1) z7) ∧ (-10) - (V7 (V7 (V7 x0 2) 1) z7) ≤ 2147483647 ∧ Q ((-10) - (V7 (V7 (V7 x0 2) 1) z7)) S7 V7)))) ∧ (¬ ((V1 x0 14) < 20) → Q (-2) S1 V1)) ∧ (¬ (z1 ≠ 0) → Q (-1) S1 V1))) : XJ l G bX11_encode Q d 0 [vr x0, vi x1, vu, vu] [] S V mc ms := by
  refine X_aload_n dX11_encode_0 rfl ?_
  refine X_iload_n dX11_encode_1 rfl ?_
  refine X_invV (ci := 11) (as := [vi x1]) (st := []) okX11_bookAt dX11_encode_2 km_RX11_90 rfl rfl (Nat.le_of_ble_eq_true rfl) rfl rfl h.1 (CT.imp h.2 (fun z1 S1 V1 mc1 ms1 hc2 => ?_))
  refine X_astore_n dX11_encode_5 (by decide) rfl ?_
  refine X_aload_n dX11_encode_6 rfl ?_
  refine X_ifnonnull dX11_encode_7 (tgt := 12) rfl (fun c3 => ?_) (fun c3 => ?_)
  · refine X_aload_n dX11_encode_12 rfl ?_
    refine X_getfield (ci := 11) (k := 14) (v := vi (V1 x0 14)) dX11_encode_13 rfl (by decide) kf_RX11_270 rfl (hc2.1 c3).1 ?_
    refine X_bipush dX11_encode_16 (by decide) (by decide) ?_
    refine X_icmp_lt dX11_encode_18 (tgt := 24) rfl (fun c4 => ?_) (fun c4 => ?_)
    · refine X_aload_n dX11_encode_24 rfl ?_
      refine X_getfield (ci := 11) (k := 2) (v := vr (V1 x0 2)) dX11_encode_25 rfl (by decide) kf_RX11_16 rfl (hc2.1 c3).1 ?_
      refine X_aload_n dX11_encode_28 rfl ?_
      refine X_getfield (ci := 11) (k := 0) (v := vr (V1 x0 0)) dX11_encode_29 rfl (by decide) kf_RX11_9 rfl (hc2.1 c3).1 ?_
      refine X_aload_n dX11_encode_32 rfl ?_
      refine X_getfield (ci := 11) (k := 1) (v := vi (V1 x0 1)) dX11_encode_33 rfl (by decide) kf_RX11_62 rfl (hc2.1 c3).1 ?_
      refine X_invV (ci := 9) (as := [vr (V1 x0 0), vi (V1 x0 1)]) (st := []) okX9_cutUp dX11_encode_36 km_RX11_73 rfl rfl (Nat.le_of_ble_eq_true rfl) rfl rfl ((hc2.1 c3).2.1 c4).1 (CT.imp ((hc2.1 c3).2.1 c4).2 (fun z5 S5 V5 mc5 ms5 hc6 => ?_))
      refine X_aload_n dX11_encode_39 rfl ?_
      refine X_iconst dX11_encode_40 (by decide) ?_
      refine X_putfield (ci := 11) (k := 1) (z := 0) dX11_encode_41 rfl (by decide) kf_RX11_62 (Or.inl rfl) (Or.inl rfl) rfl (fun hv => hv) hc6.1 ?_
      refine X_aload_n dX11_encode_44 rfl ?_
      refine X_getfield (ci := 11) (k := 15) (v := vr (V5 x0 15)) dX11_encode_45 rfl (by decide) kf_RX11_58 (congrArg vr (up_ne (Or.inr (by decide)))) hc6.1 ?_
      refine X_aload_n dX11_encode_48 rfl ?_
      refine X_getfield (ci := 11) (k := 2) (v := vr (V5 x0 2)) dX11_encode_49 rfl (by decide) kf_RX11_16 (congrArg vr (up_ne (Or.inr (by decide)))) hc6.1 ?_
      refine X_aload_n dX11_encode_52 rfl ?_
      refine X_invV (ci := 4) (as := [vr (V5 x0 2), vr z1]) (st := []) okX4_readFrom dX11_encode_53 km_RX11_273 rfl rfl (Nat.le_of_ble_eq_true rfl) rfl rfl hc6.2.1 (CT.imp hc6.2.2 (fun z7 S7 V7 mc7 ms7 hc8 => ?_))
      refine X_istore_n dX11_encode_56 (by decide) rfl ?_
      refine X_iload_n dX11_encode_57 rfl ?_
      refine X_if_lt dX11_encode_58 (tgt := 74) rfl (fun c9 => ?_) (fun c9 => ?_)
      · refine X_aload_n dX11_encode_74 rfl ?_
        refine X_getfield (ci := 11) (k := 15) (v := vr (V7 x0 15)) dX11_encode_75 rfl (by decide) kf_RX11_58 rfl (hc8.1 c9).1 ?_
        refine X_iload_n dX11_encode_78 rfl ?_
        refine X_putfield (ci := 4) (k := 0) (z := x1) dX11_encode_79 rfl (by decide) kf_RX11_280 (Or.inl rfl) (Or.inl rfl) rfl (fun hv => hv) (hc8.1 c9).2.1 ?_
        refine X_aload_n dX11_encode_82 rfl ?_
        refine X_getfield (ci := 11) (k := 13) (v := vr (V7 x0 13)) dX11_encode_83 rfl (by decide) kf_RX11_53 (congrArg vr (up_ne (Or.inl (tag_ne (hc8.1 c9).1 (hc8.1 c9).2.1 (by decide))))) (hc8.1 c9).1 ?_
        refine X_aload_n dX11_encode_86 rfl ?_
        refine X_getfield (ci := 11) (k := 14) (v := vi (V7 x0 14)) dX11_encode_87 rfl (by decide) kf_RX11_270 (congrArg vi (up_ne (Or.inl (tag_ne (hc8.1 c9).1 (hc8.1 c9).2.1 (by decide))))) (hc8.1 c9).1 ?_
        refine X_aload_n dX11_encode_90 rfl ?_
        refine X_getfield (ci := 11) (k := 15) (v := vr (V7 x0 15)) dX11_encode_91 rfl (by decide) kf_RX11_58 (congrArg vr (up_ne (Or.inl (tag_ne (hc8.1 c9).1 (hc8.1 c9).2.1 (by decide))))) (hc8.1 c9).1 ?_
        refine X_aastore (ci := 4) (t := 34) rfl dX11_encode_94 (by decide) rfl (hc8.1 c9).2.2.1 (hc8.1 c9).2.1 (hc8.1 c9).2.2.2.1 (hc8.1 c9).2.2.2.2.1 ?_
        refine X_aload_n dX11_encode_95 rfl ?_
        refine X_dup dX11_encode_96 (rv_cat _) ?_
        refine X_getfield (ci := 11) (k := 14) (v := vi (V7 x0 14)) dX11_encode_97 rfl (by decide) kf_RX11_270 (congrArg vi ((up_ne (Or.inl (tag_ne (hc8.1 c9).1 (hc8.1 c9).2.2.1 (by decide)))).trans (up_ne (Or.inl (tag_ne (hc8.1 c9).1 (hc8.1 c9).2.1 (by decide)))))) (hc8.1 c9).1 ?_
        refine X_iconst dX11_encode_100 (by decide) ?_
        refine X_iaddN dX11_encode_101 (hc8.1 c9).2.2.2.2.2.1 (hc8.1 c9).2.2.2.2.2.2.1 ?_
        refine X_putfield (ci := 11) (k := 14) (z := ((V7 x0 14) + 1)) dX11_encode_102 rfl (by decide) kf_RX11_270 (Or.inl rfl) (Or.inl rfl) rfl (fun hv => hv) (hc8.1 c9).1 ?_
        refine X_aload_n dX11_encode_105 rfl ?_
        refine X_newT (t := 5) (ci := 4) rfl dX11_encode_106 rfl ⟨kc_RX11_51, kn_4⟩ kd_4 (hc8.1 c9).2.2.2.2.2.2.2.1 (hc8.1 c9).2.2.2.2.2.2.2.2.1 ?_
        generalize hShn11 : nw S7 5 0 = S10
        generalize hVhn11 : clr (up (up (up V7 (V7 x0 15) 0 x1) (V7 x0 13) (V7 x0 14) (V7 x0 15)) x0 14 ((V7 x0 14) + 1)) (S7.2.2 + 1) = V10
        generalize hrhn11 : S7.2.2 + 1 = r10 at hVhn11 ⊢
        generalize hmhn11 : mc7 - 1 = mc10
        generalize hkhn11 : ms7 - 5 = ms10
        have hn11 := (hc8.1 c9).2.2.2.2.2.2.2.2.2 S10 V10 r10 mc10 ms10 hrhn11.symm hShn11.symm hVhn11.symm hmhn11.symm hkhn11.symm
        refine X_dup dX11_encode_109 (rv_cat _) ?_
        refine X_invIN (as := []) (st := [vr r10, vr x0]) okX4_init dX11_encode_110 (host := RX11) (fun U hU => hU.2.2.2.2.2.1.2.1) rfl rfl (Nat.le_of_ble_eq_true rfl) hn11.1 (CT.imp hn11.2 (fun z12 S12 V12 mc12 ms12 hc13 => ?_))
        refine X_putfield (ci := 11) (k := 15) (z := r10) dX11_encode_113 rfl (by decide) kf_RX11_58 (Or.inr (Or.inr (Or.inr (Or.inl ⟨_, rfl⟩)))) (Or.inl rfl) rfl (fun hv => hv) hc13.1 ?_
        refine X_aload_n dX11_encode_116 rfl ?_
        refine X_getfield (ci := 11) (k := 14) (v := vi (V12 x0 14)) dX11_encode_117 rfl (by decide) kf_RX11_270 (congrArg vi (up_ne (Or.inr (by decide)))) hc13.1 ?_
        refine X_iconst dX11_encode_120 (by decide) ?_
        refine X_isubN dX11_encode_121 hc13.2.1 hc13.2.2.1 ?_
        exact X_ret (z := ((V12 x0 14) - 1)) dX11_encode_122 rfl (fun hv => vok_h hv) hc13.2.2.2
      · refine X_bipush dX11_encode_61 (by decide) (by decide) ?_
        refine X_aload_n dX11_encode_63 rfl ?_
        refine X_getfield (ci := 11) (k := 2) (v := vr (V7 x0 2)) dX11_encode_64 rfl (by decide) kf_RX11_16 rfl (hc8.2 c9).1 ?_
        refine X_getfield (ci := 9) (k := 1) (v := vr (V7 (V7 x0 2) 1)) dX11_encode_67 rfl (by decide) kf_RX11_277 rfl (hc8.2 c9).2.1 ?_
        refine X_iload_n dX11_encode_70 rfl ?_
        refine X_iaload dX11_encode_71 (hc8.2 c9).2.2.1 (hc8.2 c9).2.2.2.1 (hc8.2 c9).2.2.2.2.1 ?_
        refine X_isubN dX11_encode_72 (hc8.2 c9).2.2.2.2.2.1 (hc8.2 c9).2.2.2.2.2.2.1 ?_
        exact X_ret (z := ((-10) - (V7 (V7 (V7 x0 2) 1) z7))) dX11_encode_73 rfl (fun hv => vok_h hv) (hc8.2 c9).2.2.2.2.2.2.2
    · refine X_bipush dX11_encode_21 (by decide) (by decide) ?_
      exact X_ret (z := (-2)) dX11_encode_23 rfl (fun hv => vok_h hv) ((hc2.1 c3).2.2 c4)
  · refine X_iconst dX11_encode_10 (by decide) ?_
    exact X_ret (z := (-1)) dX11_encode_11 rfl (fun hv => vok_h hv) (hc2.2 c3)
theorem qX11_encode {l : Launch} {G : GT} {Q : Int → Sh → Mem → Prop} {d : Nat} {S : Sh} {V : Mem} {mc ms : Nat} {x0 x1 : Int} (h : 0 ≤ x0 → inI x1 → XJ l G bX11_encode Q d 0 [vr x0, vi x1, vu, vu] [] S V mc ms) : Ct l G bX11_encode Q d mc ms [vr x0, vi x1] S V := Ct.of okX11_encode.1 trivial (Nat.le_of_ble_eq_true rfl) (fun hv => h (hv _ (List.mem_of_getElem? (i := 0) rfl)) (hv _ (List.mem_of_getElem? (i := 1) rfl)))
set_option maxRecDepth 10000 in
theorem vX11_signal_0 {l : Launch} {G : GT} {Q : Int → Sh → Mem → Prop} {d : Nat} {S : Sh} {V : Mem} {mc ms : Nat} {x0 x1 x2 x3 : Int} (h : S.1 x0 = 12 ∧ CT l G bX11_messageAt d mc ms [vr x0, vi x1] S V (fun z1 S1 V1 mc1 ms1 => (z1 = 0 → Q (-1) S1 V1) ∧ (¬ (z1 = 0) → (x2 < 0 → Q (-1) S1 V1) ∧ (¬ (x2 < 0) → S1.1 z1 = 5 ∧ (x2 < (V1 z1 1) → (x3 = 0 → S1.1 (V1 z1 2) = 20 ∧ 0 ≤ x2 ∧ x2 < S1.2.1 (V1 z1 2) ∧ Q (V1 (V1 z1 2) x2) S1 V1) ∧ (¬ x3 = 0 → (x3 = 1 → S1.1 (V1 z1 3) = 20 ∧ 0 ≤ x2 ∧ x2 < S1.2.1 (V1 z1 3) ∧ Q (V1 (V1 z1 3) x2) S1 V1) ∧ (¬ x3 = 1 → (x3 = 2 → S1.1 (V1 z1 4) = 20 ∧ 0 ≤ x2 ∧ x2 < S1.2.1 (V1 z1 4) ∧ Q (V1 (V1 z1 4) x2) S1 V1) ∧ (¬ x3 = 2 → (x3 = 3 → Q (V1 z1 0) S1 V1) ∧ (¬ x3 = 3 → Q (-1) S1 V1))))) ∧ (¬ (x2 < (V1 z1 1)) → Q (-1) S1 V1))))) : XJ l G bX11_signal Q d 0 [vr x0, vi x1, vi x2, vi x3, vu] [] S V mc ms := by
  refine X_aload_n dX11_signal_0 rfl ?_
  refine X_iload_n dX11_signal_1 rfl ?_
  refine X_invV (ci := 11) (as := [vi x1]) (st := []) okX11_messageAt dX11_signal_2 km_RX11_281 rfl rfl (Nat.le_of_ble_eq_true rfl) rfl rfl h.1 (CT.imp h.2 (fun z1 S1 V1 mc1 ms1 hc2 => ?_))
  refine X_astore dX11_signal_5 (by decide) rfl ?_
  refine X_aload dX11_signal_7 rfl ?_
  refine X_ifnull dX11_signal_9 (tgt := 25) rfl (fun c3 => ?_) (fun c3 => ?_)
  · refine X_iconst dX11_signal_25 (by decide) ?_
    exact X_ret (z := (-1)) dX11_signal_26 rfl (fun hv => vok_h hv) (hc2.1 c3)
  · refine X_iload_n dX11_signal_12 rfl ?_
    refine X_if_lt dX11_signal_13 (tgt := 25) rfl (fun c4 => ?_) (fun c4 => ?_)
    · refine X_iconst dX11_signal_25 (by decide) ?_
      exact X_ret (z := (-1)) dX11_signal_26 rfl (fun hv => vok_h hv) ((hc2.2 c3).1 c4)
    · refine X_iload_n dX11_signal_16 rfl ?_
      refine X_aload dX11_signal_17 rfl ?_
      refine X_getfield (ci := 4) (k := 1) (v := vi (V1 z1 1)) dX11_signal_19 rfl (by decide) kf_RX11_285 rfl ((hc2.2 c3).2 c4).1 ?_
      refine X_icmp_lt dX11_signal_22 (tgt := 27) rfl (fun c5 => ?_) (fun c5 => ?_)
      · refine X_iload_n dX11_signal_27 rfl ?_
        by_cases c6 : x3 = 0
        · refine X_table dX11_signal_28 60 32 (by rw [c6]; rfl) rfl ?_
          refine X_aload dX11_signal_60 rfl ?_
          refine X_getfield (ci := 4) (k := 2) (v := vr (V1 z1 2)) dX11_signal_62 rfl (by decide) kf_RX11_288 rfl ((hc2.2 c3).2 c4).1 ?_
          refine X_iload_n dX11_signal_65 rfl ?_
          refine X_iaload dX11_signal_66 ((((hc2.2 c3).2 c4).2.1 c5).1 c6).1 ((((hc2.2 c3).2 c4).2.1 c5).1 c6).2.1 ((((hc2.2 c3).2 c4).2.1 c5).1 c6).2.2.1 ?_
          exact X_ret (z := (V1 (V1 z1 2) x2)) dX11_signal_67 rfl (fun hv => vok_h hv) ((((hc2.2 c3).2 c4).2.1 c5).1 c6).2.2.2
        by_cases c7 : x3 = 1
        · refine X_table dX11_signal_28 68 40 (by rw [c7]; rfl) rfl ?_
          refine X_aload dX11_signal_68 rfl ?_
          refine X_getfield (ci := 4) (k := 3) (v := vr (V1 z1 3)) dX11_signal_70 rfl (by decide) kf_RX11_291 rfl ((hc2.2 c3).2 c4).1 ?_
          refine X_iload_n dX11_signal_73 rfl ?_
          refine X_iaload dX11_signal_74 (((((hc2.2 c3).2 c4).2.1 c5).2 c6).1 c7).1 (((((hc2.2 c3).2 c4).2.1 c5).2 c6).1 c7).2.1 (((((hc2.2 c3).2 c4).2.1 c5).2 c6).1 c7).2.2.1 ?_
          exact X_ret (z := (V1 (V1 z1 3) x2)) dX11_signal_75 rfl (fun hv => vok_h hv) (((((hc2.2 c3).2 c4).2.1 c5).2 c6).1 c7).2.2.2
        by_cases c8 : x3 = 2
        · refine X_table dX11_signal_28 76 48 (by rw [c8]; rfl) rfl ?_
          refine X_aload dX11_signal_76 rfl ?_
          refine X_getfield (ci := 4) (k := 4) (v := vr (V1 z1 4)) dX11_signal_78 rfl (by decide) kf_RX11_294 rfl ((hc2.2 c3).2 c4).1 ?_
          refine X_iload_n dX11_signal_81 rfl ?_
          refine X_iaload dX11_signal_82 ((((((hc2.2 c3).2 c4).2.1 c5).2 c6).2 c7).1 c8).1 ((((((hc2.2 c3).2 c4).2.1 c5).2 c6).2 c7).1 c8).2.1 ((((((hc2.2 c3).2 c4).2.1 c5).2 c6).2 c7).1 c8).2.2.1 ?_
          exact X_ret (z := (V1 (V1 z1 4) x2)) dX11_signal_83 rfl (fun hv => vok_h hv) ((((((hc2.2 c3).2 c4).2.1 c5).2 c6).2 c7).1 c8).2.2.2
        by_cases c9 : x3 = 3
        · refine X_table dX11_signal_28 84 56 (by rw [c9]; rfl) rfl ?_
          refine X_aload dX11_signal_84 rfl ?_
          refine X_getfield (ci := 4) (k := 0) (v := vi (V1 z1 0)) dX11_signal_86 rfl (by decide) kf_RX11_280 rfl ((hc2.2 c3).2 c4).1 ?_
          exact X_ret (z := (V1 z1 0)) dX11_signal_89 rfl (fun hv => vok_h hv) (((((((hc2.2 c3).2 c4).2.1 c5).2 c6).2 c7).2 c8).1 c9)
        refine X_table dX11_signal_28 90 62 (tbl_df (by omega)) rfl ?_
        refine X_iconst dX11_signal_90 (by decide) ?_
        exact X_ret (z := (-1)) dX11_signal_91 rfl (fun hv => vok_h hv) (((((((hc2.2 c3).2 c4).2.1 c5).2 c6).2 c7).2 c8).2 c9)
      · refine X_iconst dX11_signal_25 (by decide) ?_
        exact X_ret (z := (-1)) dX11_signal_26 rfl (fun hv => vok_h hv) (((hc2.2 c3).2 c4).2.2 c5)
theorem qX11_signal {l : Launch} {G : GT} {Q : Int → Sh → Mem → Prop} {d : Nat} {S : Sh} {V : Mem} {mc ms : Nat} {x0 x1 x2 x3 : Int} (h : 0 ≤ x0 → inI x1 → inI x2 → inI x3 → XJ l G bX11_signal Q d 0 [vr x0, vi x1, vi x2, vi x3, vu] [] S V mc ms) : Ct l G bX11_signal Q d mc ms [vr x0, vi x1, vi x2, vi x3] S V := Ct.of okX11_signal.1 trivial (Nat.le_of_ble_eq_true rfl) (fun hv => h (hv _ (List.mem_of_getElem? (i := 0) rfl)) (hv _ (List.mem_of_getElem? (i := 1) rfl)) (hv _ (List.mem_of_getElem? (i := 2) rfl)) (hv _ (List.mem_of_getElem? (i := 3) rfl)))
set_option maxRecDepth 10000 in
theorem vX11_decode_0 {l : Launch} {G : GT} {Q : Int → Sh → Mem → Prop} {d : Nat} {S : Sh} {V : Mem} {mc ms : Nat} {x0 x1 : Int} (h : S.1 x0 = 12 ∧ CT l G bX11_messageAt d mc ms [vr x0, vi x1] S V (fun z1 S1 V1 mc1 ms1 => (z1 ≠ 0 → S1.1 x0 = 12 ∧ XJ l G bX11_decode Q d 19 [vr x0, vi x1, vr z1, vi 0] [] S1 (up V1 x0 1 0) mc1 ms1) ∧ (¬ (z1 ≠ 0) → Q (-1) S1 V1))) : XJ l G bX11_decode Q d 0 [vr x0, vi x1, vu, vu] [] S V mc ms := by
  refine X_aload_n dX11_decode_0 rfl ?_
  refine X_iload_n dX11_decode_1 rfl ?_
  refine X_invV (ci := 11) (as := [vi x1]) (st := []) okX11_messageAt dX11_decode_2 km_RX11_281 rfl rfl (Nat.le_of_ble_eq_true rfl) rfl rfl h.1 (CT.imp h.2 (fun z1 S1 V1 mc1 ms1 hc2 => ?_))
  refine X_astore_n dX11_decode_5 (by decide) rfl ?_
  refine X_aload_n dX11_decode_6 rfl ?_
  refine X_ifnonnull dX11_decode_7 (tgt := 12) rfl (fun c3 => ?_) (fun c3 => ?_)
  · refine X_aload_n dX11_decode_12 rfl ?_
    refine X_iconst dX11_decode_13 (by decide) ?_
    refine X_putfield (ci := 11) (k := 1) (z := 0) dX11_decode_14 rfl (by decide) kf_RX11_62 (Or.inl rfl) (Or.inl rfl) rfl (fun hv => hv) (hc2.1 c3).1 ?_
    refine X_iconst dX11_decode_17 (by decide) ?_
    refine X_istore_n dX11_decode_18 (by decide) rfl ?_
    exact (hc2.1 c3).2
  · refine X_iconst dX11_decode_10 (by decide) ?_
    exact X_ret (z := (-1)) dX11_decode_11 rfl (fun hv => vok_h hv) (hc2.2 c3)
set_option maxRecDepth 10000 in
theorem vX11_decode_19 {l : Launch} {G : GT} {Q : Int → Sh → Mem → Prop} {d : Nat} {S : Sh} {V : Mem} {mc ms : Nat} {x0 x1 x2 x3 : Int} (h : S.1 x2 = 5 ∧ ((V x2 1) ≤ x3 → S.1 x0 = 12 ∧ Q (V x0 1) S V) ∧ (¬ ((V x2 1) ≤ x3) → (x3 ≤ 0 → S.1 x0 = 12 ∧ CT l G bX11_nameOf d mc ms [vr x0, vr x2, vi x3] S V (fun z3 S3 V3 mc3 ms3 => S3.1 x0 = 12 ∧ CT l G bX11_putName d mc3 ms3 [vr x0, vl z3] S3 V3 (fun z5 S5 V5 mc5 ms5 => S5.1 x2 = 5 ∧ S5.1 (V5 x2 4) = 20 ∧ 0 ≤ x3 ∧ x3 < S5.2.1 (V5 x2 4) ∧ ((V5 (V5 x2 4) x3) = 0 → -2147483648 ≤ x3 + 1 ∧ x3 + 1 ≤ 2147483647 ∧ XJ l G bX11_decode Q d 19 [vr x0, vi x1, vr x2, vi (x3 + 1)] [] S5 V5 mc5 ms5) ∧ (¬ ((V5 (V5 x2 4) x3) = 0) → S5.1 x0 = 12 ∧ CT l G bX11_putByte d mc5 ms5 [vr x0, vi 32] S5 V5 (fun z8 S8 V8 mc8 ms8 => S8.1 x2 = 5 ∧ S8.1 (V8 x2 4) = 20 ∧ 0 ≤ x3 ∧ x3 < S8.2.1 (V8 x2 4) ∧ S8.1 x0 = 12 ∧ CT l G bX11_putNumber d mc8 ms8 [vr x0, vi (V8 (V8 x2 4) x3)] S8 V8 (fun z10 S10 V10 mc10 ms10 => -2147483648 ≤ x3 + 1 ∧ x3 + 1 ≤ 2147483647 ∧ XJ l G bX11_decode Q d 19 [vr x0, vi x1, vr x2, vi (x3 + 1)] [] S10 V10 mc10 ms10)))))) ∧ (¬ (x3 ≤ 0) → S.1 x0 = 12 ∧ CT l G bX11_putByte d mc ms [vr x0, vi 32] S V (fun z12 S12 V12 mc12 ms12 => S12.1 x0 = 12 ∧ CT l G bX11_nameOf d mc12 ms12 [vr x0, vr x2, vi x3] S12 V12 (fun z14 S14 V14 mc14 ms14 => S14.1 x0 = 12 ∧ CT l G bX11_putName d mc14 ms14 [vr x0, vl z14] S14 V14 (fun z16 S16 V16 mc16 ms16 => S16.1 x2 = 5 ∧ S16.1 (V16 x2 4) = 20 ∧ 0 ≤ x3 ∧ x3 < S16.2.1 (V16 x2 4) ∧ ((V16 (V16 x2 4) x3) = 0 → -2147483648 ≤ x3 + 1 ∧ x3 + 1 ≤ 2147483647 ∧ XJ l G bX11_decode Q d 19 [vr x0, vi x1, vr x2, vi (x3 + 1)] [] S16 V16 mc16 ms16) ∧ (¬ ((V16 (V16 x2 4) x3) = 0) → S16.1 x0 = 12 ∧ CT l G bX11_putByte d mc16 ms16 [vr x0, vi 32] S16 V16 (fun z19 S19 V19 mc19 ms19 => S19.1 x2 = 5 ∧ S19.1 (V19 x2 4) = 20 ∧ 0 ≤ x3 ∧ x3 < S19.2.1 (V19 x2 4) ∧ S19.1 x0 = 12 ∧ CT l G bX11_putNumber d mc19 ms19 [vr x0, vi (V19 (V19 x2 4) x3)] S19 V19 (fun z21 S21 V21 mc21 ms21 => -2147483648 ≤ x3 + 1 ∧ x3 + 1 ≤ 2147483647 ∧ XJ l G bX11_decode Q d 19 [vr x0, vi x1, vr x2, vi (x3 + 1)] [] S21 V21 mc21 ms21))))))))) : XJ l G bX11_decode Q d 19 [vr x0, vi x1, vr x2, vi x3] [] S V mc ms := by
  refine X_iload_n dX11_decode_19 rfl ?_
  refine X_aload_n dX11_decode_20 rfl ?_
  refine X_getfield (ci := 4) (k := 1) (v := vi (V x2 1)) dX11_decode_21 rfl (by decide) kf_RX11_285 rfl h.1 ?_
  refine X_icmp_ge dX11_decode_24 (tgt := 78) rfl (fun c1 => ?_) (fun c1 => ?_)
  · refine X_aload_n dX11_decode_78 rfl ?_
    refine X_getfield (ci := 11) (k := 1) (v := vi (V x0 1)) dX11_decode_79 rfl (by decide) kf_RX11_62 rfl (h.2.1 c1).1 ?_
    exact X_ret (z := (V x0 1)) dX11_decode_82 rfl (fun hv => vok_h hv) (h.2.1 c1).2
  · refine X_iload_n dX11_decode_27 rfl ?_
    refine X_if_le dX11_decode_28 (tgt := 37) rfl (fun c2 => ?_) (fun c2 => ?_)
    · refine X_aload_n dX11_decode_37 rfl ?_
      refine X_aload_n dX11_decode_38 rfl ?_
      refine X_aload_n dX11_decode_39 rfl ?_
      refine X_iload_n dX11_decode_40 rfl ?_
      refine X_invV (ci := 11) (as := [vr x2, vi x3]) (st := [vr x0]) okX11_nameOf dX11_decode_41 km_RX11_297 rfl rfl (Nat.le_of_ble_eq_true rfl) rfl rfl ((h.2.2 c1).1 c2).1 (CT.imp ((h.2.2 c1).1 c2).2 (fun z3 S3 V3 mc3 ms3 hc4 => ?_))
      refine X_invV (ci := 11) (as := [vl z3]) (st := []) okX11_putName dX11_decode_44 km_RX11_301 rfl rfl (Nat.le_of_ble_eq_true rfl) rfl rfl hc4.1 (CT.imp hc4.2 (fun z5 S5 V5 mc5 ms5 hc6 => ?_))
      refine X_aload_n dX11_decode_47 rfl ?_
      refine X_getfield (ci := 4) (k := 4) (v := vr (V5 x2 4)) dX11_decode_48 rfl (by decide) kf_RX11_294 rfl hc6.1 ?_
      refine X_iload_n dX11_decode_51 rfl ?_
      refine X_iaload dX11_decode_52 hc6.2.1 hc6.2.2.1 hc6.2.2.2.1 ?_
      refine X_if_eq dX11_decode_53 (tgt := 72) rfl (fun c7 => ?_) (fun c7 => ?_)
      · refine X_iincN dX11_decode_72 rfl (by decide) rfl (e := x3 + 1) rfl (hc6.2.2.2.2.1 c7).1 (hc6.2.2.2.2.1 c7).2.1 ?_
        refine X_goto dX11_decode_75 (tgt := 19) rfl ?_
        exact (hc6.2.2.2.2.1 c7).2.2
      · refine X_aload_n dX11_decode_56 rfl ?_
        refine X_bipush dX11_decode_57 (by decide) (by decide) ?_
        refine X_invV (ci := 11) (as := [vi 32]) (st := []) okX11_putByte dX11_decode_59 km_RX11_66 rfl rfl (Nat.le_of_ble_eq_true rfl) rfl rfl (hc6.2.2.2.2.2 c7).1 (CT.imp (hc6.2.2.2.2.2 c7).2 (fun z8 S8 V8 mc8 ms8 hc9 => ?_))
        refine X_aload_n dX11_decode_62 rfl ?_
        refine X_aload_n dX11_decode_63 rfl ?_
        refine X_getfield (ci := 4) (k := 4) (v := vr (V8 x2 4)) dX11_decode_64 rfl (by decide) kf_RX11_294 rfl hc9.1 ?_
        refine X_iload_n dX11_decode_67 rfl ?_
        refine X_iaload dX11_decode_68 hc9.2.1 hc9.2.2.1 hc9.2.2.2.1 ?_
        refine X_invV (ci := 11) (as := [vi (V8 (V8 x2 4) x3)]) (st := []) okX11_putNumber dX11_decode_69 km_RX11_305 rfl rfl (Nat.le_of_ble_eq_true rfl) rfl rfl hc9.2.2.2.2.1 (CT.imp hc9.2.2.2.2.2 (fun z10 S10 V10 mc10 ms10 hc11 => ?_))
        refine X_iincN dX11_decode_72 rfl (by decide) rfl (e := x3 + 1) rfl hc11.1 hc11.2.1 ?_
        refine X_goto dX11_decode_75 (tgt := 19) rfl ?_
        exact hc11.2.2
    · refine X_aload_n dX11_decode_31 rfl ?_
      refine X_bipush dX11_decode_32 (by decide) (by decide) ?_
      refine X_invV (ci := 11) (as := [vi 32]) (st := []) okX11_putByte dX11_decode_34 km_RX11_66 rfl rfl (Nat.le_of_ble_eq_true rfl) rfl rfl ((h.2.2 c1).2 c2).1 (CT.imp ((h.2.2 c1).2 c2).2 (fun z12 S12 V12 mc12 ms12 hc13 => ?_))
      refine X_aload_n dX11_decode_37 rfl ?_
      refine X_aload_n dX11_decode_38 rfl ?_
      refine X_aload_n dX11_decode_39 rfl ?_
      refine X_iload_n dX11_decode_40 rfl ?_
      refine X_invV (ci := 11) (as := [vr x2, vi x3]) (st := [vr x0]) okX11_nameOf dX11_decode_41 km_RX11_297 rfl rfl (Nat.le_of_ble_eq_true rfl) rfl rfl hc13.1 (CT.imp hc13.2 (fun z14 S14 V14 mc14 ms14 hc15 => ?_))
      refine X_invV (ci := 11) (as := [vl z14]) (st := []) okX11_putName dX11_decode_44 km_RX11_301 rfl rfl (Nat.le_of_ble_eq_true rfl) rfl rfl hc15.1 (CT.imp hc15.2 (fun z16 S16 V16 mc16 ms16 hc17 => ?_))
      refine X_aload_n dX11_decode_47 rfl ?_
      refine X_getfield (ci := 4) (k := 4) (v := vr (V16 x2 4)) dX11_decode_48 rfl (by decide) kf_RX11_294 rfl hc17.1 ?_
      refine X_iload_n dX11_decode_51 rfl ?_
      refine X_iaload dX11_decode_52 hc17.2.1 hc17.2.2.1 hc17.2.2.2.1 ?_
      refine X_if_eq dX11_decode_53 (tgt := 72) rfl (fun c18 => ?_) (fun c18 => ?_)
      · refine X_iincN dX11_decode_72 rfl (by decide) rfl (e := x3 + 1) rfl (hc17.2.2.2.2.1 c18).1 (hc17.2.2.2.2.1 c18).2.1 ?_
        refine X_goto dX11_decode_75 (tgt := 19) rfl ?_
        exact (hc17.2.2.2.2.1 c18).2.2
      · refine X_aload_n dX11_decode_56 rfl ?_
        refine X_bipush dX11_decode_57 (by decide) (by decide) ?_
        refine X_invV (ci := 11) (as := [vi 32]) (st := []) okX11_putByte dX11_decode_59 km_RX11_66 rfl rfl (Nat.le_of_ble_eq_true rfl) rfl rfl (hc17.2.2.2.2.2 c18).1 (CT.imp (hc17.2.2.2.2.2 c18).2 (fun z19 S19 V19 mc19 ms19 hc20 => ?_))
        refine X_aload_n dX11_decode_62 rfl ?_
        refine X_aload_n dX11_decode_63 rfl ?_
        refine X_getfield (ci := 4) (k := 4) (v := vr (V19 x2 4)) dX11_decode_64 rfl (by decide) kf_RX11_294 rfl hc20.1 ?_
        refine X_iload_n dX11_decode_67 rfl ?_
        refine X_iaload dX11_decode_68 hc20.2.1 hc20.2.2.1 hc20.2.2.2.1 ?_
        refine X_invV (ci := 11) (as := [vi (V19 (V19 x2 4) x3)]) (st := []) okX11_putNumber dX11_decode_69 km_RX11_305 rfl rfl (Nat.le_of_ble_eq_true rfl) rfl rfl hc20.2.2.2.2.1 (CT.imp hc20.2.2.2.2.2 (fun z21 S21 V21 mc21 ms21 hc22 => ?_))
        refine X_iincN dX11_decode_72 rfl (by decide) rfl (e := x3 + 1) rfl hc22.1 hc22.2.1 ?_
        refine X_goto dX11_decode_75 (tgt := 19) rfl ?_
        exact hc22.2.2
theorem qX11_decode {l : Launch} {G : GT} {Q : Int → Sh → Mem → Prop} {d : Nat} {S : Sh} {V : Mem} {mc ms : Nat} {x0 x1 : Int} (h : 0 ≤ x0 → inI x1 → XJ l G bX11_decode Q d 0 [vr x0, vi x1, vu, vu] [] S V mc ms) : Ct l G bX11_decode Q d mc ms [vr x0, vi x1] S V := Ct.of okX11_decode.1 trivial (Nat.le_of_ble_eq_true rfl) (fun hv => h (hv _ (List.mem_of_getElem? (i := 0) rfl)) (hv _ (List.mem_of_getElem? (i := 1) rfl)))
set_option maxRecDepth 10000 in
theorem vX11_putByte_0 {l : Launch} {G : GT} {Q : Int → Sh → Mem → Prop} {d : Nat} {S : Sh} {V : Mem} {mc ms : Nat} {x0 x1 : Int} (h : S.1 x0 = 12 ∧ (3000 ≤ (V x0 1) → Q 0 S V) ∧ (¬ (3000 ≤ (V x0 1)) → S.1 (V x0 0) = 21 ∧ 0 ≤ (V x0 1) ∧ (V x0 1) < S.2.1 (V x0 0) ∧ -2147483648 ≤ (V x0 1) + 1 ∧ (V x0 1) + 1 ≤ 2147483647 ∧ Q 0 S (up (up V (V x0 0) (V x0 1) (wb (wb x1))) x0 1 ((V x0 1) + 1)))) : XJ l G bX11_putByte Q d 0 [vr x0, vi x1] [] S V mc ms := by
  refine X_aload_n dX11_putByte_0 rfl ?_
  refine X_getfield (ci := 11) (k := 1) (v := vi (V x0 1)) dX11_putByte_1 rfl (by decide) kf_RX11_62 rfl h.1 ?_
  refine X_sipush dX11_putByte_4 (by decide) (by decide) ?_
  refine X_icmp_ge dX11_putByte_7 (tgt := 31) rfl (fun c1 => ?_) (fun c1 => ?_)
  · exact X_ret (z := 0) dX11_putByte_31 rfl (fun _ => trivial) (h.2.1 c1)
  · refine X_aload_n dX11_putByte_10 rfl ?_
    refine X_getfield (ci := 11) (k := 0) (v := vr (V x0 0)) dX11_putByte_11 rfl (by decide) kf_RX11_9 rfl h.1 ?_
    refine X_aload_n dX11_putByte_14 rfl ?_
    refine X_getfield (ci := 11) (k := 1) (v := vi (V x0 1)) dX11_putByte_15 rfl (by decide) kf_RX11_62 rfl h.1 ?_
    refine X_iload_n dX11_putByte_18 rfl ?_
    refine X_i2b dX11_putByte_19 ?_
    refine X_bastore dX11_putByte_20 (h.2.2 c1).1 (h.2.2 c1).2.1 (h.2.2 c1).2.2.1 ?_
    refine X_aload_n dX11_putByte_21 rfl ?_
    refine X_dup dX11_putByte_22 (rv_cat _) ?_
    refine X_getfield (ci := 11) (k := 1) (v := vi (V x0 1)) dX11_putByte_23 rfl (by decide) kf_RX11_62 (congrArg vi (up_ne (Or.inl (tag_ne h.1 (h.2.2 c1).1 (by decide))))) h.1 ?_
    refine X_iconst dX11_putByte_26 (by decide) ?_
    refine X_iaddN dX11_putByte_27 (h.2.2 c1).2.2.2.1 (h.2.2 c1).2.2.2.2.1 ?_
    refine X_putfield (ci := 11) (k := 1) (z := ((V x0 1) + 1)) dX11_putByte_28 rfl (by decide) kf_RX11_62 (Or.inl rfl) (Or.inl rfl) rfl (fun hv => hv) h.1 ?_
    exact X_ret (z := 0) dX11_putByte_31 rfl (fun _ => trivial) (h.2.2 c1).2.2.2.2.2
theorem qX11_putByte {l : Launch} {G : GT} {Q : Int → Sh → Mem → Prop} {d : Nat} {S : Sh} {V : Mem} {mc ms : Nat} {x0 x1 : Int} (h : 0 ≤ x0 → inI x1 → XJ l G bX11_putByte Q d 0 [vr x0, vi x1] [] S V mc ms) : Ct l G bX11_putByte Q d mc ms [vr x0, vi x1] S V := Ct.of okX11_putByte.1 trivial (Nat.le_of_ble_eq_true rfl) (fun hv => h (hv _ (List.mem_of_getElem? (i := 0) rfl)) (hv _ (List.mem_of_getElem? (i := 1) rfl)))
set_option maxRecDepth 10000 in
theorem vX11_putName_0 {l : Launch} {G : GT} {Q : Int → Sh → Mem → Prop} {d : Nat} {S : Sh} {V : Mem} {mc ms : Nat} {x0 x1 : Int} (h : CT l G bX9_lengthOfName d mc ms [vl x1] S V (fun z1 S1 V1 mc1 ms1 => XJ l G bX11_putName Q d 8 [vr x0, vl x1, vu, vi z1, vi 0] [] S1 V1 mc1 ms1)) : XJ l G bX11_putName Q d 0 [vr x0, vl x1, vu, vu, vu] [] S V mc ms := by
  refine X_lload_n dX11_putName_0 rfl ?_
  refine X_invS (as := [vl x1]) (st := []) okX9_lengthOfName dX11_putName_1 km_RX11_308 rfl rfl (Nat.le_of_ble_eq_true rfl) (CT.imp h (fun z1 S1 V1 mc1 ms1 hc2 => ?_))
  refine X_istore_n dX11_putName_4 (by decide) rfl ?_
  refine X_iconst dX11_putName_5 (by decide) ?_
  refine X_istore dX11_putName_6 (by decide) rfl ?_
  exact hc2
set_option maxRecDepth 10000 in
theorem vX11_putName_8 {l : Launch} {G : GT} {Q : Int → Sh → Mem → Prop} {d : Nat} {S : Sh} {V : Mem} {mc ms : Nat} {x0 x1 x3 x4 : Int} (h : (x3 ≤ x4 → Q 0 S V) ∧ (¬ (x3 ≤ x4) → CT l G bX9_signOfName d mc ms [vl x1, vi x4] S V (fun z2 S2 V2 mc2 ms2 => S2.1 x0 = 12 ∧ CT l G bX11_putByte d mc2 ms2 [vr x0, vi z2] S2 V2 (fun z4 S4 V4 mc4 ms4 => -2147483648 ≤ x4 + 1 ∧ x4 + 1 ≤ 2147483647 ∧ XJ l G bX11_putName Q d 8 [vr x0, vl x1, vu, vi x3, vi (x4 + 1)] [] S4 V4 mc4 ms4)))) : XJ l G bX11_putName Q d 8 [vr x0, vl x1, vu, vi x3, vi x4] [] S V mc ms := by
  refine X_iload dX11_putName_8 rfl ?_
  refine X_iload_n dX11_putName_10 rfl ?_
  refine X_icmp_ge dX11_putName_11 (tgt := 30) rfl (fun c1 => ?_) (fun c1 => ?_)
  · exact X_ret (z := 0) dX11_putName_30 rfl (fun _ => trivial) (h.1 c1)
  · refine X_aload_n dX11_putName_14 rfl ?_
    refine X_lload_n dX11_putName_15 rfl ?_
    refine X_iload dX11_putName_16 rfl ?_
    refine X_invS (as := [vl x1, vi x4]) (st := [vr x0]) okX9_signOfName dX11_putName_18 km_RX11_312 rfl rfl (Nat.le_of_ble_eq_true rfl) (CT.imp (h.2 c1) (fun z2 S2 V2 mc2 ms2 hc3 => ?_))
    refine X_invV (ci := 11) (as := [vi z2]) (st := []) okX11_putByte dX11_putName_21 km_RX11_66 rfl rfl (Nat.le_of_ble_eq_true rfl) rfl rfl hc3.1 (CT.imp hc3.2 (fun z4 S4 V4 mc4 ms4 hc5 => ?_))
    refine X_iincN dX11_putName_24 rfl (by decide) rfl (e := x4 + 1) rfl hc5.1 hc5.2.1 ?_
    refine X_goto dX11_putName_27 (tgt := 8) rfl ?_
    exact hc5.2.2
theorem qX11_putName {l : Launch} {G : GT} {Q : Int → Sh → Mem → Prop} {d : Nat} {S : Sh} {V : Mem} {mc ms : Nat} {x0 x1 : Int} (h : 0 ≤ x0 → inL x1 → XJ l G bX11_putName Q d 0 [vr x0, vl x1, vu, vu, vu] [] S V mc ms) : Ct l G bX11_putName Q d mc ms [vr x0, vl x1] S V := Ct.of okX11_putName.1 trivial (Nat.le_of_ble_eq_true rfl) (fun hv => h (hv _ (List.mem_of_getElem? (i := 0) rfl)) (hv _ (List.mem_of_getElem? (i := 1) rfl)))
set_option maxRecDepth 10000 in
theorem vX11_putNumber_0 {l : Launch} {G : GT} {Q : Int → Sh → Mem → Prop} {d : Nat} {S : Sh} {V : Mem} {mc ms : Nat} {x0 x1 : Int} (h : XJ l G bX11_putNumber Q d 4 [vr x0, vi x1, vi 1, vi 1] [] S V mc ms) : XJ l G bX11_putNumber Q d 0 [vr x0, vi x1, vu, vu] [] S V mc ms := by
  refine X_iconst dX11_putNumber_0 (by decide) ?_
  refine X_istore_n dX11_putNumber_1 (by decide) rfl ?_
  refine X_iconst dX11_putNumber_2 (by decide) ?_
  refine X_istore_n dX11_putNumber_3 (by decide) rfl ?_
  exact h
set_option maxRecDepth 10000 in
theorem vX11_putNumber_4 {l : Launch} {G : GT} {Q : Int → Sh → Mem → Prop} {d : Nat} {S : Sh} {V : Mem} {mc ms : Nat} {x0 x1 x2 x3 : Int} (h : (9 ≤ x3 → XJ l G bX11_putNumber Q d 31 [vr x0, vi x1, vi x2, vi x2] [] S V mc ms) ∧ (¬ (9 ≤ x3) → 0 < x2 ∧ ((x1.tdiv x2) < 10 → XJ l G bX11_putNumber Q d 31 [vr x0, vi x1, vi x2, vi x2] [] S V mc ms) ∧ (¬ ((x1.tdiv x2) < 10) → -2147483648 ≤ x2 * 10 ∧ x2 * 10 ≤ 2147483647 ∧ -2147483648 ≤ x3 + 1 ∧ x3 + 1 ≤ 2147483647 ∧ XJ l G bX11_putNumber Q d 4 [vr x0, vi x1, vi (x2 * 10), vi (x3 + 1)] [] S V mc ms))) : XJ l G bX11_putNumber Q d 4 [vr x0, vi x1, vi x2, vi x3] [] S V mc ms := by
  refine X_iload_n dX11_putNumber_4 rfl ?_
  refine X_bipush dX11_putNumber_5 (by decide) (by decide) ?_
  refine X_icmp_ge dX11_putNumber_7 (tgt := 29) rfl (fun c1 => ?_) (fun c1 => ?_)
  · refine X_iload_n dX11_putNumber_29 rfl ?_
    refine X_istore_n dX11_putNumber_30 (by decide) rfl ?_
    exact (h.1 c1)
  · refine X_iload_n dX11_putNumber_10 rfl ?_
    refine X_iload_n dX11_putNumber_11 rfl ?_
    refine X_idivP dX11_putNumber_12 (h.2 c1).1 ?_
    refine X_bipush dX11_putNumber_13 (by decide) (by decide) ?_
    refine X_icmp_lt dX11_putNumber_15 (tgt := 29) rfl (fun c2 => ?_) (fun c2 => ?_)
    · refine X_iload_n dX11_putNumber_29 rfl ?_
      refine X_istore_n dX11_putNumber_30 (by decide) rfl ?_
      exact ((h.2 c1).2.1 c2)
    · refine X_iload_n dX11_putNumber_18 rfl ?_
      refine X_bipush dX11_putNumber_19 (by decide) (by decide) ?_
      refine X_imulN dX11_putNumber_21 ((h.2 c1).2.2 c2).1 ((h.2 c1).2.2 c2).2.1 ?_
      refine X_istore_n dX11_putNumber_22 (by decide) rfl ?_
      refine X_iincN dX11_putNumber_23 rfl (by decide) rfl (e := x3 + 1) rfl ((h.2 c1).2.2 c2).2.2.1 ((h.2 c1).2.2 c2).2.2.2.1 ?_
      refine X_goto dX11_putNumber_26 (tgt := 4) rfl ?_
      exact ((h.2 c1).2.2 c2).2.2.2.2
set_option maxRecDepth 10000 in
theorem vX11_putNumber_31 {l : Launch} {G : GT} {Q : Int → Sh → Mem → Prop} {d : Nat} {S : Sh} {V : Mem} {mc ms : Nat} {x0 x1 x2 x3 : Int} (h : (x3 ≤ 0 → Q 0 S V) ∧ (¬ (x3 ≤ 0) → 0 < x3 ∧ -2147483648 ≤ 48 + ((x1.tdiv x3).tmod 10) ∧ 48 + ((x1.tdiv x3).tmod 10) ≤ 2147483647 ∧ S.1 x0 = 12 ∧ CT l G bX11_putByte d mc ms [vr x0, vi (48 + ((x1.tdiv x3).tmod 10))] S V (fun z2 S2 V2 mc2 ms2 => XJ l G bX11_putNumber Q d 31 [vr x0, vi x1, vi x2, vi (x3.tdiv 10)] [] S2 V2 mc2 ms2))) : XJ l G bX11_putNumber Q d 31 [vr x0, vi x1, vi x2, vi x3] [] S V mc ms := by
  refine X_iload_n dX11_putNumber_31 rfl ?_
  refine X_if_le dX11_putNumber_32 (tgt := 56) rfl (fun c1 => ?_) (fun c1 => ?_)
  · exact X_ret (z := 0) dX11_putNumber_56 rfl (fun _ => trivial) (h.1 c1)
  · refine X_aload_n dX11_putNumber_35 rfl ?_
    refine X_bipush dX11_putNumber_36 (by decide) (by decide) ?_
    refine X_iload_n dX11_putNumber_38 rfl ?_
    refine X_iload_n dX11_putNumber_39 rfl ?_
    refine X_idivP dX11_putNumber_40 (h.2 c1).1 ?_
    refine X_bipush dX11_putNumber_41 (by decide) (by decide) ?_
    refine X_iremP dX11_putNumber_43 (by decide) ?_
    refine X_iaddN dX11_putNumber_44 (h.2 c1).2.1 (h.2 c1).2.2.1 ?_
    refine X_invV (ci := 11) (as := [vi (48 + ((x1.tdiv x3).tmod 10))]) (st := []) okX11_putByte dX11_putNumber_45 km_RX11_66 rfl rfl (Nat.le_of_ble_eq_true rfl) rfl rfl (h.2 c1).2.2.2.1 (CT.imp (h.2 c1).2.2.2.2 (fun z2 S2 V2 mc2 ms2 hc3 => ?_))
    refine X_iload_n dX11_putNumber_48 rfl ?_
    refine X_bipush dX11_putNumber_49 (by decide) (by decide) ?_
    refine X_idivP dX11_putNumber_51 (by decide) ?_
    refine X_istore_n dX11_putNumber_52 (by decide) rfl ?_
    refine X_goto dX11_putNumber_53 (tgt := 31) rfl ?_
    exact hc3
theorem qX11_putNumber {l : Launch} {G : GT} {Q : Int → Sh → Mem → Prop} {d : Nat} {S : Sh} {V : Mem} {mc ms : Nat} {x0 x1 : Int} (h : 0 ≤ x0 → inI x1 → XJ l G bX11_putNumber Q d 0 [vr x0, vi x1, vu, vu] [] S V mc ms) : Ct l G bX11_putNumber Q d mc ms [vr x0, vi x1] S V := Ct.of okX11_putNumber.1 trivial (Nat.le_of_ble_eq_true rfl) (fun hv => h (hv _ (List.mem_of_getElem? (i := 0) rfl)) (hv _ (List.mem_of_getElem? (i := 1) rfl)))
set_option maxRecDepth 10000 in
theorem vX11_nameOf_0 {l : Launch} {G : GT} {Q : Int → Sh → Mem → Prop} {d : Nat} {S : Sh} {V : Mem} {mc ms : Nat} {x0 x1 x2 : Int} (h : S.1 x1 = 5 ∧ S.1 (V x1 2) = 20 ∧ 0 ≤ x2 ∧ x2 < S.2.1 (V x1 2) ∧ S.1 x0 = 12 ∧ CT l G bX11_enumOf d mc ms [vr x0, vi (V x1 0), vi (V (V x1 2) x2)] S V (fun z1 S1 V1 mc1 ms1 => (z1 ≠ 0 → S1.1 x1 = 5 ∧ S1.1 (V1 x1 3) = 20 ∧ 0 ≤ x2 ∧ x2 < S1.2.1 (V1 x1 3) ∧ S1.1 z1 = 4 ∧ CT l G bX3_constantAt d mc1 ms1 [vr z1, vi (V1 (V1 x1 3) x2)] S1 V1 (fun z4 S4 V4 mc4 ms4 => (z4 ≠ 0 → S4.1 z4 = 3 ∧ Q (V4 z4 0) S4 V4) ∧ (¬ (z4 ≠ 0) → Q 0 S4 V4))) ∧ (¬ (z1 ≠ 0) → Q 0 S1 V1))) : XJ l G bX11_nameOf Q d 0 [vr x0, vr x1, vi x2, vu, vu] [] S V mc ms := by
  refine X_aload_n dX11_nameOf_0 rfl ?_
  refine X_aload_n dX11_nameOf_1 rfl ?_
  refine X_getfield (ci := 4) (k := 0) (v := vi (V x1 0)) dX11_nameOf_2 rfl (by decide) kf_RX11_280 rfl h.1 ?_
  refine X_aload_n dX11_nameOf_5 rfl ?_
  refine X_getfield (ci := 4) (k := 2) (v := vr (V x1 2)) dX11_nameOf_6 rfl (by decide) kf_RX11_288 rfl h.1 ?_
  refine X_iload_n dX11_nameOf_9 rfl ?_
  refine X_iaload dX11_nameOf_10 h.2.1 h.2.2.1 h.2.2.2.1 ?_
  refine X_invV (ci := 11) (as := [vi (V x1 0), vi (V (V x1 2) x2)]) (st := []) okX11_enumOf dX11_nameOf_11 km_RX11_106 rfl rfl (Nat.le_of_ble_eq_true rfl) rfl rfl h.2.2.2.2.1 (CT.imp h.2.2.2.2.2 (fun z1 S1 V1 mc1 ms1 hc2 => ?_))
  refine X_astore_n dX11_nameOf_14 (by decide) rfl ?_
  refine X_aload_n dX11_nameOf_15 rfl ?_
  refine X_ifnonnull dX11_nameOf_16 (tgt := 23) rfl (fun c3 => ?_) (fun c3 => ?_)
  · refine X_aload_n dX11_nameOf_23 rfl ?_
    refine X_aload_n dX11_nameOf_24 rfl ?_
    refine X_getfield (ci := 4) (k := 3) (v := vr (V1 x1 3)) dX11_nameOf_25 rfl (by decide) kf_RX11_291 rfl (hc2.1 c3).1 ?_
    refine X_iload_n dX11_nameOf_28 rfl ?_
    refine X_iaload dX11_nameOf_29 (hc2.1 c3).2.1 (hc2.1 c3).2.2.1 (hc2.1 c3).2.2.2.1 ?_
    refine X_invV (ci := 3) (as := [vi (V1 (V1 x1 3) x2)]) (st := []) okX3_constantAt dX11_nameOf_30 km_RX11_143 rfl rfl (Nat.le_of_ble_eq_true rfl) rfl rfl (hc2.1 c3).2.2.2.2.1 (CT.imp (hc2.1 c3).2.2.2.2.2 (fun z4 S4 V4 mc4 ms4 hc5 => ?_))
    refine X_astore dX11_nameOf_33 (by decide) rfl ?_
    refine X_aload dX11_nameOf_35 rfl ?_
    refine X_ifnonnull dX11_nameOf_37 (tgt := 44) rfl (fun c6 => ?_) (fun c6 => ?_)
    · refine X_aload dX11_nameOf_44 rfl ?_
      refine X_getfield (ci := 2) (k := 0) (v := vl (V4 z4 0)) dX11_nameOf_46 rfl (by decide) kf_RX11_147 rfl (hc5.1 c6).1 ?_
      exact X_ret (z := (V4 z4 0)) dX11_nameOf_49 rfl (fun hv => vok_h hv) (hc5.1 c6).2
    · refine X_lconst dX11_nameOf_40 ?_
      refine X_goto dX11_nameOf_41 (tgt := 49) rfl ?_
      exact X_ret (z := 0) dX11_nameOf_49 rfl (fun hv => vok_h hv) (hc5.2 c6)
  · refine X_aconst_null dX11_nameOf_19 ?_
    refine X_goto dX11_nameOf_20 (tgt := 33) rfl ?_
    refine X_astore dX11_nameOf_33 (by decide) rfl ?_
    refine X_aload dX11_nameOf_35 rfl ?_
    refine X_ifnonnull dX11_nameOf_37 (tgt := 44) rfl (fun c => absurd rfl c) (fun _ => ?_)
    refine X_lconst dX11_nameOf_40 ?_
    refine X_goto dX11_nameOf_41 (tgt := 49) rfl ?_
    exact X_ret (z := 0) dX11_nameOf_49 rfl (fun hv => vok_h hv) (hc2.2 c3)
theorem qX11_nameOf {l : Launch} {G : GT} {Q : Int → Sh → Mem → Prop} {d : Nat} {S : Sh} {V : Mem} {mc ms : Nat} {x0 x1 x2 : Int} (h : 0 ≤ x0 → 0 ≤ x1 → inI x2 → XJ l G bX11_nameOf Q d 0 [vr x0, vr x1, vi x2, vu, vu] [] S V mc ms) : Ct l G bX11_nameOf Q d mc ms [vr x0, vr x1, vi x2] S V := Ct.of okX11_nameOf.1 trivial (Nat.le_of_ble_eq_true rfl) (fun hv => h (hv _ (List.mem_of_getElem? (i := 0) rfl)) (hv _ (List.mem_of_getElem? (i := 1) rfl)) (hv _ (List.mem_of_getElem? (i := 2) rfl)))
set_option maxRecDepth 10000 in
theorem vX11_letterOf_0 {l : Launch} {G : GT} {Q : Int → Sh → Mem → Prop} {d : Nat} {S : Sh} {V : Mem} {mc ms : Nat} {x0 x2 : Int} (h : (x2 < 0 → Q (-1) S V) ∧ (¬ (x2 < 0) → CT l G bX9_lengthOfName d mc ms [vl x0] S V (fun z2 S2 V2 mc2 ms2 => (x2 < z2 → CT l G bX9_signOfName d mc2 ms2 [vl x0, vi x2] S2 V2 (fun z5 S5 V5 mc5 ms5 => Q z5 S5 V5)) ∧ (¬ (x2 < z2) → Q (-1) S2 V2)))) : XJ l G bX11_letterOf Q d 0 [vl x0, vu, vi x2] [] S V mc ms := by
  refine X_iload_n dX11_letterOf_0 rfl ?_
  refine X_if_lt dX11_letterOf_1 (tgt := 12) rfl (fun c1 => ?_) (fun c1 => ?_)
  · refine X_iconst dX11_letterOf_12 (by decide) ?_
    refine X_goto dX11_letterOf_13 (tgt := 21) rfl ?_
    exact X_ret (z := (-1)) dX11_letterOf_21 rfl (fun hv => vok_h hv) (h.1 c1)
  · refine X_iload_n dX11_letterOf_4 rfl ?_
    refine X_lload_n dX11_letterOf_5 rfl ?_
    refine X_invS (as := [vl x0]) (st := [vi x2]) okX9_lengthOfName dX11_letterOf_6 km_RX11_308 rfl rfl (Nat.le_of_ble_eq_true rfl) (CT.imp (h.2 c1) (fun z2 S2 V2 mc2 ms2 hc3 => ?_))
    refine X_icmp_lt dX11_letterOf_9 (tgt := 16) rfl (fun c4 => ?_) (fun c4 => ?_)
    · refine X_lload_n dX11_letterOf_16 rfl ?_
      refine X_iload_n dX11_letterOf_17 rfl ?_
      refine X_invS (as := [vl x0, vi x2]) (st := []) okX9_signOfName dX11_letterOf_18 km_RX11_312 rfl rfl (Nat.le_of_ble_eq_true rfl) (CT.imp (hc3.1 c4) (fun z5 S5 V5 mc5 ms5 hc6 => ?_))
      exact X_ret (z := z5) dX11_letterOf_21 rfl (fun hv => vok_h hv) hc6
    · refine X_iconst dX11_letterOf_12 (by decide) ?_
      refine X_goto dX11_letterOf_13 (tgt := 21) rfl ?_
      exact X_ret (z := (-1)) dX11_letterOf_21 rfl (fun hv => vok_h hv) (hc3.2 c4)
theorem qX11_letterOf {l : Launch} {G : GT} {Q : Int → Sh → Mem → Prop} {d : Nat} {S : Sh} {V : Mem} {mc ms : Nat} {x0 x2 : Int} (h : inL x0 → inI x2 → XJ l G bX11_letterOf Q d 0 [vl x0, vu, vi x2] [] S V mc ms) : Ct l G bX11_letterOf Q d mc ms [vl x0, vi x2] S V := Ct.of okX11_letterOf.1 trivial (Nat.le_of_ble_eq_true rfl) (fun hv => h (hv _ (List.mem_of_getElem? (i := 0) rfl)) (hv _ (List.mem_of_getElem? (i := 1) rfl)))
set_option maxRecDepth 10000 in
theorem vX11_bookAt_0 {l : Launch} {G : GT} {Q : Int → Sh → Mem → Prop} {d : Nat} {S : Sh} {V : Mem} {mc ms : Nat} {x0 x1 : Int} (h : (x1 < 0 → Q 0 S V) ∧ (¬ (x1 < 0) → S.1 x0 = 12 ∧ (x1 < (V x0 6) → S.1 (V x0 5) = 30 ∧ 0 ≤ x1 ∧ x1 < S.2.1 (V x0 5) ∧ Q (V (V x0 5) x1) S V) ∧ (¬ (x1 < (V x0 6)) → Q 0 S V))) : XJ l G bX11_bookAt Q d 0 [vr x0, vi x1] [] S V mc ms := by
  refine X_iload_n dX11_bookAt_0 rfl ?_
  refine X_if_lt dX11_bookAt_1 (tgt := 12) rfl (fun c1 => ?_) (fun c1 => ?_)
  · refine X_aconst_null dX11_bookAt_12 ?_
    refine X_goto dX11_bookAt_13 (tgt := 22) rfl ?_
    exact X_ret (z := 0) dX11_bookAt_22 rfl (fun hv => vok_h hv) (h.1 c1)
  · refine X_iload_n dX11_bookAt_4 rfl ?_
    refine X_aload_n dX11_bookAt_5 rfl ?_
    refine X_getfield (ci := 11) (k := 6) (v := vi (V x0 6)) dX11_bookAt_6 rfl (by decide) kf_RX11_70 rfl (h.2 c1).1 ?_
    refine X_icmp_lt dX11_bookAt_9 (tgt := 16) rfl (fun c2 => ?_) (fun c2 => ?_)
    · refine X_aload_n dX11_bookAt_16 rfl ?_
      refine X_getfield (ci := 11) (k := 5) (v := vr (V x0 5)) dX11_bookAt_17 rfl (by decide) kf_RX11_38 rfl (h.2 c1).1 ?_
      refine X_iload_n dX11_bookAt_20 rfl ?_
      refine X_aaload30 dX11_bookAt_21 ((h.2 c1).2.1 c2).1 ((h.2 c1).2.1 c2).2.1 ((h.2 c1).2.1 c2).2.2.1 ?_
      exact X_ret (z := (V (V x0 5) x1)) dX11_bookAt_22 rfl (fun hv => vok_h hv) ((h.2 c1).2.1 c2).2.2.2
    · refine X_aconst_null dX11_bookAt_12 ?_
      refine X_goto dX11_bookAt_13 (tgt := 22) rfl ?_
      exact X_ret (z := 0) dX11_bookAt_22 rfl (fun hv => vok_h hv) ((h.2 c1).2.2 c2)
theorem qX11_bookAt {l : Launch} {G : GT} {Q : Int → Sh → Mem → Prop} {d : Nat} {S : Sh} {V : Mem} {mc ms : Nat} {x0 x1 : Int} (h : 0 ≤ x0 → inI x1 → XJ l G bX11_bookAt Q d 0 [vr x0, vi x1] [] S V mc ms) : Ct l G bX11_bookAt Q d mc ms [vr x0, vi x1] S V := Ct.of okX11_bookAt.1 trivial (Nat.le_of_ble_eq_true rfl) (fun hv => h (hv _ (List.mem_of_getElem? (i := 0) rfl)) (hv _ (List.mem_of_getElem? (i := 1) rfl)))
set_option maxRecDepth 10000 in
theorem vX11_enumOf_0 {l : Launch} {G : GT} {Q : Int → Sh → Mem → Prop} {d : Nat} {S : Sh} {V : Mem} {mc ms : Nat} {x0 x1 x2 : Int} (h : S.1 x0 = 12 ∧ CT l G bX11_bookAt d mc ms [vr x0, vi x1] S V (fun z1 S1 V1 mc1 ms1 => (z1 ≠ 0 → S1.1 z1 = 1 ∧ CT l G bX0_enumAt d mc1 ms1 [vr z1, vi x2] S1 V1 (fun z4 S4 V4 mc4 ms4 => Q z4 S4 V4)) ∧ (¬ (z1 ≠ 0) → Q 0 S1 V1))) : XJ l G bX11_enumOf Q d 0 [vr x0, vi x1, vi x2, vu] [] S V mc ms := by
  refine X_aload_n dX11_enumOf_0 rfl ?_
  refine X_iload_n dX11_enumOf_1 rfl ?_
  refine X_invV (ci := 11) (as := [vi x1]) (st := []) okX11_bookAt dX11_enumOf_2 km_RX11_90 rfl rfl (Nat.le_of_ble_eq_true rfl) rfl rfl h.1 (CT.imp h.2 (fun z1 S1 V1 mc1 ms1 hc2 => ?_))
  refine X_astore_n dX11_enumOf_5 (by decide) rfl ?_
  refine X_aload_n dX11_enumOf_6 rfl ?_
  refine X_ifnonnull dX11_enumOf_7 (tgt := 14) rfl (fun c3 => ?_) (fun c3 => ?_)
  · refine X_aload_n dX11_enumOf_14 rfl ?_
    refine X_iload_n dX11_enumOf_15 rfl ?_
    refine X_invV (ci := 0) (as := [vi x2]) (st := []) okX0_enumAt dX11_enumOf_16 km_RX11_315 rfl rfl (Nat.le_of_ble_eq_true rfl) rfl rfl (hc2.1 c3).1 (CT.imp (hc2.1 c3).2 (fun z4 S4 V4 mc4 ms4 hc5 => ?_))
    exact X_ret (z := z4) dX11_enumOf_19 rfl (fun hv => vok_h hv) hc5
  · refine X_aconst_null dX11_enumOf_10 ?_
    refine X_goto dX11_enumOf_11 (tgt := 19) rfl ?_
    exact X_ret (z := 0) dX11_enumOf_19 rfl (fun hv => vok_h hv) (hc2.2 c3)
theorem qX11_enumOf {l : Launch} {G : GT} {Q : Int → Sh → Mem → Prop} {d : Nat} {S : Sh} {V : Mem} {mc ms : Nat} {x0 x1 x2 : Int} (h : 0 ≤ x0 → inI x1 → inI x2 → XJ l G bX11_enumOf Q d 0 [vr x0, vi x1, vi x2, vu] [] S V mc ms) : Ct l G bX11_enumOf Q d mc ms [vr x0, vi x1, vi x2] S V := Ct.of okX11_enumOf.1 trivial (Nat.le_of_ble_eq_true rfl) (fun hv => h (hv _ (List.mem_of_getElem? (i := 0) rfl)) (hv _ (List.mem_of_getElem? (i := 1) rfl)) (hv _ (List.mem_of_getElem? (i := 2) rfl)))
set_option maxRecDepth 10000 in
theorem vX11_hasAct_0 {l : Launch} {G : GT} {Q : Int → Sh → Mem → Prop} {d : Nat} {S : Sh} {V : Mem} {mc ms : Nat} {x0 x1 x2 : Int} (h : S.1 x0 = 12 ∧ CT l G bX11_bookAt d mc ms [vr x0, vi x1] S V (fun z1 S1 V1 mc1 ms1 => (z1 = 0 → Q 0 S1 V1) ∧ (¬ (z1 = 0) → (x2 < 0 → Q 0 S1 V1) ∧ (¬ (x2 < 0) → S1.1 z1 = 1 ∧ ((V1 z1 2) ≤ x2 → Q 0 S1 V1) ∧ (¬ ((V1 z1 2) ≤ x2) → Q 1 S1 V1))))) : XJ l G bX11_hasAct Q d 0 [vr x0, vi x1, vi x2, vu] [] S V mc ms := by
  refine X_aload_n dX11_hasAct_0 rfl ?_
  refine X_iload_n dX11_hasAct_1 rfl ?_
  refine X_invV (ci := 11) (as := [vi x1]) (st := []) okX11_bookAt dX11_hasAct_2 km_RX11_90 rfl rfl (Nat.le_of_ble_eq_true rfl) rfl rfl h.1 (CT.imp h.2 (fun z1 S1 V1 mc1 ms1 hc2 => ?_))
  refine X_astore_n dX11_hasAct_5 (by decide) rfl ?_
  refine X_aload_n dX11_hasAct_6 rfl ?_
  refine X_ifnull dX11_hasAct_7 (tgt := 26) rfl (fun c3 => ?_) (fun c3 => ?_)
  · refine X_iconst dX11_hasAct_26 (by decide) ?_
    exact X_ret (z := 0) dX11_hasAct_27 rfl (fun _ => Or.inl rfl) (hc2.1 c3)
  · refine X_iload_n dX11_hasAct_10 rfl ?_
    refine X_if_lt dX11_hasAct_11 (tgt := 26) rfl (fun c4 => ?_) (fun c4 => ?_)
    · refine X_iconst dX11_hasAct_26 (by decide) ?_
      exact X_ret (z := 0) dX11_hasAct_27 rfl (fun _ => Or.inl rfl) ((hc2.2 c3).1 c4)
    · refine X_iload_n dX11_hasAct_14 rfl ?_
      refine X_aload_n dX11_hasAct_15 rfl ?_
      refine X_getfield (ci := 0) (k := 2) (v := vi (V1 z1 2)) dX11_hasAct_16 rfl (by decide) kf_RX11_97 rfl ((hc2.2 c3).2 c4).1 ?_
      refine X_icmp_ge dX11_hasAct_19 (tgt := 26) rfl (fun c5 => ?_) (fun c5 => ?_)
      · refine X_iconst dX11_hasAct_26 (by decide) ?_
        exact X_ret (z := 0) dX11_hasAct_27 rfl (fun _ => Or.inl rfl) (((hc2.2 c3).2 c4).2.1 c5)
      · refine X_iconst dX11_hasAct_22 (by decide) ?_
        refine X_goto dX11_hasAct_23 (tgt := 27) rfl ?_
        exact X_ret (z := 1) dX11_hasAct_27 rfl (fun _ => Or.inr rfl) (((hc2.2 c3).2 c4).2.2 c5)
theorem qX11_hasAct {l : Launch} {G : GT} {Q : Int → Sh → Mem → Prop} {d : Nat} {S : Sh} {V : Mem} {mc ms : Nat} {x0 x1 x2 : Int} (h : 0 ≤ x0 → inI x1 → inI x2 → XJ l G bX11_hasAct Q d 0 [vr x0, vi x1, vi x2, vu] [] S V mc ms) : Ct l G bX11_hasAct Q d mc ms [vr x0, vi x1, vi x2] S V := Ct.of okX11_hasAct.1 trivial (Nat.le_of_ble_eq_true rfl) (fun hv => h (hv _ (List.mem_of_getElem? (i := 0) rfl)) (hv _ (List.mem_of_getElem? (i := 1) rfl)) (hv _ (List.mem_of_getElem? (i := 2) rfl)))
set_option maxRecDepth 10000 in
theorem vX11_setAt_0 {l : Launch} {G : GT} {Q : Int → Sh → Mem → Prop} {d : Nat} {S : Sh} {V : Mem} {mc ms : Nat} {x0 x1 : Int} (h : (x1 < 0 → Q 0 S V) ∧ (¬ (x1 < 0) → S.1 x0 = 12 ∧ (x1 < (V x0 10) → S.1 (V x0 9) = 36 ∧ 0 ≤ x1 ∧ x1 < S.2.1 (V x0 9) ∧ Q (V (V x0 9) x1) S V) ∧ (¬ (x1 < (V x0 10)) → Q 0 S V))) : XJ l G bX11_setAt Q d 0 [vr x0, vi x1] [] S V mc ms := by
  refine X_iload_n dX11_setAt_0 rfl ?_
  refine X_if_lt dX11_setAt_1 (tgt := 12) rfl (fun c1 => ?_) (fun c1 => ?_)
  · refine X_aconst_null dX11_setAt_12 ?_
    refine X_goto dX11_setAt_13 (tgt := 22) rfl ?_
    exact X_ret (z := 0) dX11_setAt_22 rfl (fun hv => vok_h hv) (h.1 c1)
  · refine X_iload_n dX11_setAt_4 rfl ?_
    refine X_aload_n dX11_setAt_5 rfl ?_
    refine X_getfield (ci := 11) (k := 10) (v := vi (V x0 10)) dX11_setAt_6 rfl (by decide) kf_RX11_213 rfl (h.2 c1).1 ?_
    refine X_icmp_lt dX11_setAt_9 (tgt := 16) rfl (fun c2 => ?_) (fun c2 => ?_)
    · refine X_aload_n dX11_setAt_16 rfl ?_
      refine X_getfield (ci := 11) (k := 9) (v := vr (V x0 9)) dX11_setAt_17 rfl (by decide) kf_RX11_44 rfl (h.2 c1).1 ?_
      refine X_iload_n dX11_setAt_20 rfl ?_
      refine X_aaload36 dX11_setAt_21 ((h.2 c1).2.1 c2).1 ((h.2 c1).2.1 c2).2.1 ((h.2 c1).2.1 c2).2.2.1 ?_
      exact X_ret (z := (V (V x0 9) x1)) dX11_setAt_22 rfl (fun hv => vok_h hv) ((h.2 c1).2.1 c2).2.2.2
    · refine X_aconst_null dX11_setAt_12 ?_
      refine X_goto dX11_setAt_13 (tgt := 22) rfl ?_
      exact X_ret (z := 0) dX11_setAt_22 rfl (fun hv => vok_h hv) ((h.2 c1).2.2 c2)
theorem qX11_setAt {l : Launch} {G : GT} {Q : Int → Sh → Mem → Prop} {d : Nat} {S : Sh} {V : Mem} {mc ms : Nat} {x0 x1 : Int} (h : 0 ≤ x0 → inI x1 → XJ l G bX11_setAt Q d 0 [vr x0, vi x1] [] S V mc ms) : Ct l G bX11_setAt Q d mc ms [vr x0, vi x1] S V := Ct.of okX11_setAt.1 trivial (Nat.le_of_ble_eq_true rfl) (fun hv => h (hv _ (List.mem_of_getElem? (i := 0) rfl)) (hv _ (List.mem_of_getElem? (i := 1) rfl)))
set_option maxRecDepth 10000 in
theorem vX11_mapAt_0 {l : Launch} {G : GT} {Q : Int → Sh → Mem → Prop} {d : Nat} {S : Sh} {V : Mem} {mc ms : Nat} {x0 x1 : Int} (h : (x1 < 0 → Q 0 S V) ∧ (¬ (x1 < 0) → S.1 x0 = 12 ∧ (x1 < (V x0 12) → S.1 (V x0 11) = 36 ∧ 0 ≤ x1 ∧ x1 < S.2.1 (V x0 11) ∧ Q (V (V x0 11) x1) S V) ∧ (¬ (x1 < (V x0 12)) → Q 0 S V))) : XJ l G bX11_mapAt Q d 0 [vr x0, vi x1] [] S V mc ms := by
  refine X_iload_n dX11_mapAt_0 rfl ?_
  refine X_if_lt dX11_mapAt_1 (tgt := 12) rfl (fun c1 => ?_) (fun c1 => ?_)
  · refine X_aconst_null dX11_mapAt_12 ?_
    refine X_goto dX11_mapAt_13 (tgt := 22) rfl ?_
    exact X_ret (z := 0) dX11_mapAt_22 rfl (fun hv => vok_h hv) (h.1 c1)
  · refine X_iload_n dX11_mapAt_4 rfl ?_
    refine X_aload_n dX11_mapAt_5 rfl ?_
    refine X_getfield (ci := 11) (k := 12) (v := vi (V x0 12)) dX11_mapAt_6 rfl (by decide) kf_RX11_258 rfl (h.2 c1).1 ?_
    refine X_icmp_lt dX11_mapAt_9 (tgt := 16) rfl (fun c2 => ?_) (fun c2 => ?_)
    · refine X_aload_n dX11_mapAt_16 rfl ?_
      refine X_getfield (ci := 11) (k := 11) (v := vr (V x0 11)) dX11_mapAt_17 rfl (by decide) kf_RX11_48 rfl (h.2 c1).1 ?_
      refine X_iload_n dX11_mapAt_20 rfl ?_
      refine X_aaload36 dX11_mapAt_21 ((h.2 c1).2.1 c2).1 ((h.2 c1).2.1 c2).2.1 ((h.2 c1).2.1 c2).2.2.1 ?_
      exact X_ret (z := (V (V x0 11) x1)) dX11_mapAt_22 rfl (fun hv => vok_h hv) ((h.2 c1).2.1 c2).2.2.2
    · refine X_aconst_null dX11_mapAt_12 ?_
      refine X_goto dX11_mapAt_13 (tgt := 22) rfl ?_
      exact X_ret (z := 0) dX11_mapAt_22 rfl (fun hv => vok_h hv) ((h.2 c1).2.2 c2)
theorem qX11_mapAt {l : Launch} {G : GT} {Q : Int → Sh → Mem → Prop} {d : Nat} {S : Sh} {V : Mem} {mc ms : Nat} {x0 x1 : Int} (h : 0 ≤ x0 → inI x1 → XJ l G bX11_mapAt Q d 0 [vr x0, vi x1] [] S V mc ms) : Ct l G bX11_mapAt Q d mc ms [vr x0, vi x1] S V := Ct.of okX11_mapAt.1 trivial (Nat.le_of_ble_eq_true rfl) (fun hv => h (hv _ (List.mem_of_getElem? (i := 0) rfl)) (hv _ (List.mem_of_getElem? (i := 1) rfl)))
set_option maxRecDepth 10000 in
theorem vX11_messageAt_0 {l : Launch} {G : GT} {Q : Int → Sh → Mem → Prop} {d : Nat} {S : Sh} {V : Mem} {mc ms : Nat} {x0 x1 : Int} (h : (x1 < 0 → Q 0 S V) ∧ (¬ (x1 < 0) → S.1 x0 = 12 ∧ (x1 < (V x0 14) → S.1 (V x0 13) = 34 ∧ 0 ≤ x1 ∧ x1 < S.2.1 (V x0 13) ∧ Q (V (V x0 13) x1) S V) ∧ (¬ (x1 < (V x0 14)) → Q 0 S V))) : XJ l G bX11_messageAt Q d 0 [vr x0, vi x1] [] S V mc ms := by
  refine X_iload_n dX11_messageAt_0 rfl ?_
  refine X_if_lt dX11_messageAt_1 (tgt := 12) rfl (fun c1 => ?_) (fun c1 => ?_)
  · refine X_aconst_null dX11_messageAt_12 ?_
    refine X_goto dX11_messageAt_13 (tgt := 22) rfl ?_
    exact X_ret (z := 0) dX11_messageAt_22 rfl (fun hv => vok_h hv) (h.1 c1)
  · refine X_iload_n dX11_messageAt_4 rfl ?_
    refine X_aload_n dX11_messageAt_5 rfl ?_
    refine X_getfield (ci := 11) (k := 14) (v := vi (V x0 14)) dX11_messageAt_6 rfl (by decide) kf_RX11_270 rfl (h.2 c1).1 ?_
    refine X_icmp_lt dX11_messageAt_9 (tgt := 16) rfl (fun c2 => ?_) (fun c2 => ?_)
    · refine X_aload_n dX11_messageAt_16 rfl ?_
      refine X_getfield (ci := 11) (k := 13) (v := vr (V x0 13)) dX11_messageAt_17 rfl (by decide) kf_RX11_53 rfl (h.2 c1).1 ?_
      refine X_iload_n dX11_messageAt_20 rfl ?_
      refine X_aaload34 dX11_messageAt_21 ((h.2 c1).2.1 c2).1 ((h.2 c1).2.1 c2).2.1 ((h.2 c1).2.1 c2).2.2.1 ?_
      exact X_ret (z := (V (V x0 13) x1)) dX11_messageAt_22 rfl (fun hv => vok_h hv) ((h.2 c1).2.1 c2).2.2.2
    · refine X_aconst_null dX11_messageAt_12 ?_
      refine X_goto dX11_messageAt_13 (tgt := 22) rfl ?_
      exact X_ret (z := 0) dX11_messageAt_22 rfl (fun hv => vok_h hv) ((h.2 c1).2.2 c2)
theorem qX11_messageAt {l : Launch} {G : GT} {Q : Int → Sh → Mem → Prop} {d : Nat} {S : Sh} {V : Mem} {mc ms : Nat} {x0 x1 : Int} (h : 0 ≤ x0 → inI x1 → XJ l G bX11_messageAt Q d 0 [vr x0, vi x1] [] S V mc ms) : Ct l G bX11_messageAt Q d mc ms [vr x0, vi x1] S V := Ct.of okX11_messageAt.1 trivial (Nat.le_of_ble_eq_true rfl) (fun hv => h (hv _ (List.mem_of_getElem? (i := 0) rfl)) (hv _ (List.mem_of_getElem? (i := 1) rfl)))
set_option maxRecDepth 10000 in
theorem vX11_isConstant_0 {l : Launch} {G : GT} {Q : Int → Sh → Mem → Prop} {d : Nat} {S : Sh} {V : Mem} {mc ms : Nat} {x0 x1 x2 : Int} (h : S.1 x1 = 7 ∧ S.1 x0 = 12 ∧ CT l G bX11_enumOf d mc ms [vr x0, vi (V x1 0), vi (V x1 1)] S V (fun z1 S1 V1 mc1 ms1 => (z1 = 0 → Q 0 S1 V1) ∧ (¬ (z1 = 0) → S1.1 z1 = 4 ∧ CT l G bX3_constantAt d mc1 ms1 [vr z1, vi x2] S1 V1 (fun z4 S4 V4 mc4 ms4 => (z4 = 0 → Q 0 S4 V4) ∧ (¬ (z4 = 0) → Q 1 S4 V4))))) : XJ l G bX11_isConstant Q d 0 [vr x0, vr x1, vi x2, vu] [] S V mc ms := by
  refine X_aload_n dX11_isConstant_0 rfl ?_
  refine X_aload_n dX11_isConstant_1 rfl ?_
  refine X_getfield (ci := 6) (k := 0) (v := vi (V x1 0)) dX11_isConstant_2 rfl (by decide) kf_RX11_237 rfl h.1 ?_
  refine X_aload_n dX11_isConstant_5 rfl ?_
  refine X_getfield (ci := 6) (k := 1) (v := vi (V x1 1)) dX11_isConstant_6 rfl (by decide) kf_RX11_240 rfl h.1 ?_
  refine X_invV (ci := 11) (as := [vi (V x1 0), vi (V x1 1)]) (st := []) okX11_enumOf dX11_isConstant_9 km_RX11_106 rfl rfl (Nat.le_of_ble_eq_true rfl) rfl rfl h.2.1 (CT.imp h.2.2 (fun z1 S1 V1 mc1 ms1 hc2 => ?_))
  refine X_astore_n dX11_isConstant_12 (by decide) rfl ?_
  refine X_aload_n dX11_isConstant_13 rfl ?_
  refine X_ifnull dX11_isConstant_14 (tgt := 29) rfl (fun c3 => ?_) (fun c3 => ?_)
  · refine X_iconst dX11_isConstant_29 (by decide) ?_
    exact X_ret (z := 0) dX11_isConstant_30 rfl (fun _ => Or.inl rfl) (hc2.1 c3)
  · refine X_aload_n dX11_isConstant_17 rfl ?_
    refine X_iload_n dX11_isConstant_18 rfl ?_
    refine X_invV (ci := 3) (as := [vi x2]) (st := []) okX3_constantAt dX11_isConstant_19 km_RX11_143 rfl rfl (Nat.le_of_ble_eq_true rfl) rfl rfl (hc2.2 c3).1 (CT.imp (hc2.2 c3).2 (fun z4 S4 V4 mc4 ms4 hc5 => ?_))
    refine X_ifnull dX11_isConstant_22 (tgt := 29) rfl (fun c6 => ?_) (fun c6 => ?_)
    · refine X_iconst dX11_isConstant_29 (by decide) ?_
      exact X_ret (z := 0) dX11_isConstant_30 rfl (fun _ => Or.inl rfl) (hc5.1 c6)
    · refine X_iconst dX11_isConstant_25 (by decide) ?_
      refine X_goto dX11_isConstant_26 (tgt := 30) rfl ?_
      exact X_ret (z := 1) dX11_isConstant_30 rfl (fun _ => Or.inr rfl) (hc5.2 c6)
theorem qX11_isConstant {l : Launch} {G : GT} {Q : Int → Sh → Mem → Prop} {d : Nat} {S : Sh} {V : Mem} {mc ms : Nat} {x0 x1 x2 : Int} (h : 0 ≤ x0 → 0 ≤ x1 → inI x2 → XJ l G bX11_isConstant Q d 0 [vr x0, vr x1, vi x2, vu] [] S V mc ms) : Ct l G bX11_isConstant Q d mc ms [vr x0, vr x1, vi x2] S V := Ct.of okX11_isConstant.1 trivial (Nat.le_of_ble_eq_true rfl) (fun hv => h (hv _ (List.mem_of_getElem? (i := 0) rfl)) (hv _ (List.mem_of_getElem? (i := 1) rfl)) (hv _ (List.mem_of_getElem? (i := 2) rfl)))
set_option maxRecDepth 10000 in
theorem vX11_keepSet_0 {l : Launch} {G : GT} {Q : Int → Sh → Mem → Prop} {d : Nat} {S : Sh} {V : Mem} {mc ms : Nat} {x0 x1 : Int} (h : S.1 x0 = 12 ∧ S.1 (V x0 9) = 36 ∧ S.1 x1 = 7 ∧ 0 ≤ (V x0 10) ∧ (V x0 10) < S.2.1 (V x0 9) ∧ -2147483648 ≤ (V x0 10) + 1 ∧ (V x0 10) + 1 ≤ 2147483647 ∧ -2147483648 ≤ ((V x0 10) + 1) - 1 ∧ ((V x0 10) + 1) - 1 ≤ 2147483647 ∧ Q (((V x0 10) + 1) - 1) S (up (up V (V x0 9) (V x0 10) x1) x0 10 ((V x0 10) + 1))) : XJ l G bX11_keepSet Q d 0 [vr x0, vr x1] [] S V mc ms := by
  refine X_aload_n dX11_keepSet_0 rfl ?_
  refine X_getfield (ci := 11) (k := 9) (v := vr (V x0 9)) dX11_keepSet_1 rfl (by decide) kf_RX11_44 rfl h.1 ?_
  refine X_aload_n dX11_keepSet_4 rfl ?_
  refine X_getfield (ci := 11) (k := 10) (v := vi (V x0 10)) dX11_keepSet_5 rfl (by decide) kf_RX11_213 rfl h.1 ?_
  refine X_aload_n dX11_keepSet_8 rfl ?_
  refine X_aastore (ci := 6) (t := 36) rfl dX11_keepSet_9 (by decide) rfl h.2.1 h.2.2.1 h.2.2.2.1 h.2.2.2.2.1 ?_
  refine X_aload_n dX11_keepSet_10 rfl ?_
  refine X_dup dX11_keepSet_11 (rv_cat _) ?_
  refine X_getfield (ci := 11) (k := 10) (v := vi (V x0 10)) dX11_keepSet_12 rfl (by decide) kf_RX11_213 (congrArg vi (up_ne (Or.inl (tag_ne h.1 h.2.1 (by decide))))) h.1 ?_
  refine X_iconst dX11_keepSet_15 (by decide) ?_
  refine X_iaddN dX11_keepSet_16 h.2.2.2.2.2.1 h.2.2.2.2.2.2.1 ?_
  refine X_putfield (ci := 11) (k := 10) (z := ((V x0 10) + 1)) dX11_keepSet_17 rfl (by decide) kf_RX11_213 (Or.inl rfl) (Or.inl rfl) rfl (fun hv => hv) h.1 ?_
  refine X_aload_n dX11_keepSet_20 rfl ?_
  refine X_getfield (ci := 11) (k := 10) (v := vi ((V x0 10) + 1)) dX11_keepSet_21 rfl (by decide) kf_RX11_213 (congrArg vi up_eq) h.1 ?_
  refine X_iconst dX11_keepSet_24 (by decide) ?_
  refine X_isubN dX11_keepSet_25 h.2.2.2.2.2.2.2.1 h.2.2.2.2.2.2.2.2.1 ?_
  exact X_ret (z := (((V x0 10) + 1) - 1)) dX11_keepSet_26 rfl (fun hv => vok_h hv) h.2.2.2.2.2.2.2.2.2
theorem qX11_keepSet {l : Launch} {G : GT} {Q : Int → Sh → Mem → Prop} {d : Nat} {S : Sh} {V : Mem} {mc ms : Nat} {x0 x1 : Int} (h : 0 ≤ x0 → 0 ≤ x1 → XJ l G bX11_keepSet Q d 0 [vr x0, vr x1] [] S V mc ms) : Ct l G bX11_keepSet Q d mc ms [vr x0, vr x1] S V := Ct.of okX11_keepSet.1 trivial (Nat.le_of_ble_eq_true rfl) (fun hv => h (hv _ (List.mem_of_getElem? (i := 0) rfl)) (hv _ (List.mem_of_getElem? (i := 1) rfl)))
set_option maxRecDepth 10000 in
theorem vX11_joined_0 {l : Launch} {G : GT} {Q : Int → Sh → Mem → Prop} {d : Nat} {S : Sh} {V : Mem} {mc ms : Nat} {x0 x1 x2 : Int} (h : (x2 = 0 → Q (bOr x0 x1) S V) ∧ (¬ x2 = 0 → (x2 = 1 → Q (bAnd x0 x1) S V) ∧ (¬ x2 = 1 → (x2 = 2 → Q (bAnd x0 (bXor x1 (-1))) S V) ∧ (¬ x2 = 2 → Q (bXor x0 x1) S V)))) : XJ l G bX11_joined Q d 0 [vi x0, vi x1, vi x2] [] S V mc ms := by
  refine X_iload_n dX11_joined_0 rfl ?_
  by_cases c1 : x2 = 0
  · refine X_table dX11_joined_1 28 27 (by rw [c1]; rfl) rfl ?_
    refine X_iload_n dX11_joined_28 rfl ?_
    refine X_iload_n dX11_joined_29 rfl ?_
    refine X_ior dX11_joined_30 ?_
    exact X_ret (z := (bOr x0 x1)) dX11_joined_31 rfl (fun hv => vok_h hv) (h.1 c1)
  by_cases c2 : x2 = 1
  · refine X_table dX11_joined_1 32 31 (by rw [c2]; rfl) rfl ?_
    refine X_iload_n dX11_joined_32 rfl ?_
    refine X_iload_n dX11_joined_33 rfl ?_
    refine X_iand dX11_joined_34 ?_
    exact X_ret (z := (bAnd x0 x1)) dX11_joined_35 rfl (fun hv => vok_h hv) ((h.2 c1).1 c2)
  by_cases c3 : x2 = 2
  · refine X_table dX11_joined_1 36 35 (by rw [c3]; rfl) rfl ?_
    refine X_iload_n dX11_joined_36 rfl ?_
    refine X_iload_n dX11_joined_37 rfl ?_
    refine X_iconst dX11_joined_38 (by decide) ?_
    refine X_ixor dX11_joined_39 ?_
    refine X_iand dX11_joined_40 ?_
    exact X_ret (z := (bAnd x0 (bXor x1 (-1)))) dX11_joined_41 rfl (fun hv => vok_h hv) (((h.2 c1).2 c2).1 c3)
  refine X_table dX11_joined_1 42 41 (tbl_df (by omega)) rfl ?_
  refine X_iload_n dX11_joined_42 rfl ?_
  refine X_iload_n dX11_joined_43 rfl ?_
  refine X_ixor dX11_joined_44 ?_
  exact X_ret (z := (bXor x0 x1)) dX11_joined_45 rfl (fun hv => vok_h hv) (((h.2 c1).2 c2).2 c3)
theorem qX11_joined {l : Launch} {G : GT} {Q : Int → Sh → Mem → Prop} {d : Nat} {S : Sh} {V : Mem} {mc ms : Nat} {x0 x1 x2 : Int} (h : inI x0 → inI x1 → inI x2 → XJ l G bX11_joined Q d 0 [vi x0, vi x1, vi x2] [] S V mc ms) : Ct l G bX11_joined Q d mc ms [vi x0, vi x1, vi x2] S V := Ct.of okX11_joined.1 trivial (Nat.le_of_ble_eq_true rfl) (fun hv => h (hv _ (List.mem_of_getElem? (i := 0) rfl)) (hv _ (List.mem_of_getElem? (i := 1) rfl)) (hv _ (List.mem_of_getElem? (i := 2) rfl)))
set_option maxRecDepth 10000 in
theorem vX11_usedWell_0 {l : Launch} {G : GT} {Q : Int → Sh → Mem → Prop} {d : Nat} {S : Sh} {V : Mem} {mc ms : Nat} {x0 x1 x2 : Int} (h : S.1 x0 = 12 ∧ CT l G bX11_bookAt d mc ms [vr x0, vi x1] S V (fun z1 S1 V1 mc1 ms1 => (z1 = 0 → Q 0 S1 V1) ∧ (¬ (z1 = 0) → S1.1 x0 = 12 ∧ S1.1 (V1 x0 4) = 11 ∧ CT l G bX10_beginWith d mc1 ms1 [vr (V1 x0 4), vr z1, vi x2] S1 V1 (fun z4 S4 V4 mc4 ms4 => (z4 = 0 → Q 0 S4 V4) ∧ (¬ (z4 = 0) → Q 1 S4 V4))))) : XJ l G bX11_usedWell Q d 0 [vr x0, vi x1, vi x2, vu] [] S V mc ms := by
  refine X_aload_n dX11_usedWell_0 rfl ?_
  refine X_iload_n dX11_usedWell_1 rfl ?_
  refine X_invV (ci := 11) (as := [vi x1]) (st := []) okX11_bookAt dX11_usedWell_2 km_RX11_90 rfl rfl (Nat.le_of_ble_eq_true rfl) rfl rfl h.1 (CT.imp h.2 (fun z1 S1 V1 mc1 ms1 hc2 => ?_))
  refine X_astore_n dX11_usedWell_5 (by decide) rfl ?_
  refine X_aload_n dX11_usedWell_6 rfl ?_
  refine X_ifnull dX11_usedWell_7 (tgt := 26) rfl (fun c3 => ?_) (fun c3 => ?_)
  · refine X_iconst dX11_usedWell_26 (by decide) ?_
    exact X_ret (z := 0) dX11_usedWell_27 rfl (fun _ => Or.inl rfl) (hc2.1 c3)
  · refine X_aload_n dX11_usedWell_10 rfl ?_
    refine X_getfield (ci := 11) (k := 4) (v := vr (V1 x0 4)) dX11_usedWell_11 rfl (by decide) kf_RX11_32 rfl (hc2.2 c3).1 ?_
    refine X_aload_n dX11_usedWell_14 rfl ?_
    refine X_iload_n dX11_usedWell_15 rfl ?_
    refine X_invV (ci := 10) (as := [vr z1, vi x2]) (st := []) okX10_beginWith dX11_usedWell_16 km_RX11_319 rfl rfl (Nat.le_of_ble_eq_true rfl) rfl rfl (hc2.2 c3).2.1 (CT.imp (hc2.2 c3).2.2 (fun z4 S4 V4 mc4 ms4 hc5 => ?_))
    refine X_if_eq dX11_usedWell_19 (tgt := 26) rfl (fun c6 => ?_) (fun c6 => ?_)
    · refine X_iconst dX11_usedWell_26 (by decide) ?_
      exact X_ret (z := 0) dX11_usedWell_27 rfl (fun _ => Or.inl rfl) (hc5.1 c6)
    · refine X_iconst dX11_usedWell_22 (by decide) ?_
      refine X_goto dX11_usedWell_23 (tgt := 27) rfl ?_
      exact X_ret (z := 1) dX11_usedWell_27 rfl (fun _ => Or.inr rfl) (hc5.2 c6)
theorem qX11_usedWell {l : Launch} {G : GT} {Q : Int → Sh → Mem → Prop} {d : Nat} {S : Sh} {V : Mem} {mc ms : Nat} {x0 x1 x2 : Int} (h : 0 ≤ x0 → inI x1 → inI x2 → XJ l G bX11_usedWell Q d 0 [vr x0, vi x1, vi x2, vu] [] S V mc ms) : Ct l G bX11_usedWell Q d mc ms [vr x0, vi x1, vi x2] S V := Ct.of okX11_usedWell.1 trivial (Nat.le_of_ble_eq_true rfl) (fun hv => h (hv _ (List.mem_of_getElem? (i := 0) rfl)) (hv _ (List.mem_of_getElem? (i := 1) rfl)) (hv _ (List.mem_of_getElem? (i := 2) rfl)))
set_option maxRecDepth 10000 in
theorem vX11_giveOut_0 {l : Launch} {G : GT} {Q : Int → Sh → Mem → Prop} {d : Nat} {S : Sh} {V : Mem} {mc ms : Nat} {x0 x1 : Int} (h : S.1 x0 = 12 ∧ S.1 (V x0 4) = 11 ∧ ((V (V x0 4) 1) = 0 → Q 0 S (up V x0 8 x1)) ∧ (¬ ((V (V x0 4) 1) = 0) → Q (-3) S V)) : XJ l G bX11_giveOut Q d 0 [vr x0, vi x1] [] S V mc ms := by
  refine X_aload_n dX11_giveOut_0 rfl ?_
  refine X_getfield (ci := 11) (k := 4) (v := vr (V x0 4)) dX11_giveOut_1 rfl (by decide) kf_RX11_32 rfl h.1 ?_
  refine X_getfield (ci := 10) (k := 1) (v := vi (V (V x0 4) 1)) dX11_giveOut_4 rfl (by decide) kf_RX11_323 rfl h.2.1 ?_
  refine X_if_eq dX11_giveOut_7 (tgt := 13) rfl (fun c1 => ?_) (fun c1 => ?_)
  · refine X_aload_n dX11_giveOut_13 rfl ?_
    refine X_iload_n dX11_giveOut_14 rfl ?_
    refine X_putfield (ci := 11) (k := 8) (z := x1) dX11_giveOut_15 rfl (by decide) kf_RX11_165 (Or.inl rfl) (Or.inl rfl) rfl (fun hv => hv) h.1 ?_
    refine X_iconst dX11_giveOut_18 (by decide) ?_
    exact X_ret (z := 0) dX11_giveOut_19 rfl (fun hv => vok_h hv) (h.2.2.1 c1)
  · refine X_bipush dX11_giveOut_10 (by decide) (by decide) ?_
    exact X_ret (z := (-3)) dX11_giveOut_12 rfl (fun hv => vok_h hv) (h.2.2.2 c1)
theorem qX11_giveOut {l : Launch} {G : GT} {Q : Int → Sh → Mem → Prop} {d : Nat} {S : Sh} {V : Mem} {mc ms : Nat} {x0 x1 : Int} (h : 0 ≤ x0 → inI x1 → XJ l G bX11_giveOut Q d 0 [vr x0, vi x1] [] S V mc ms) : Ct l G bX11_giveOut Q d mc ms [vr x0, vi x1] S V := Ct.of okX11_giveOut.1 trivial (Nat.le_of_ble_eq_true rfl) (fun hv => h (hv _ (List.mem_of_getElem? (i := 0) rfl)) (hv _ (List.mem_of_getElem? (i := 1) rfl)))
