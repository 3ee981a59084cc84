set_option maxRecDepth 10000 in
theorem vX10_init_0 {l : Launch} {G : GT} {Q : Int → Sh → Mem → Prop} {d : Nat} {S : Sh} {V : Mem} {mc ms : Nat} {x0 : Int} (h : x0 ≠ 0 ∧ 1 ≤ d ∧ 0 ≤ (1000 : Int) ∧ (1000 : Int) ≤ 60000 ∧ 1 ≤ mc ∧ (1000 : Int).toNat ≤ ms ∧ (∀ (S1 : Sh) (V1 : Mem) (r1 : Int) (mc1 ms1 : Nat), r1 = S.2.2 + 1 → S1 = nw S 20 1000 → V1 = clr V r1 → mc1 = mc - 1 → ms1 = ms - (1000 : Int).toNat → S1.1 x0 = 11 ∧ 0 ≤ (12 : Int) ∧ (12 : Int) ≤ 60000 ∧ 1 ≤ mc1 ∧ (12 : Int).toNat ≤ ms1 ∧ (∀ (S3 : Sh) (V3 : Mem) (r3 : Int) (mc3 ms3 : Nat), r3 = S1.2.2 + 1 → S3 = nw S1 20 12 → V3 = clr (up V1 x0 2 r1) r3 → mc3 = mc1 - 1 → ms3 = ms1 - (12 : Int).toNat → S3.1 x0 = 11 ∧ 0 ≤ (13 : Int) ∧ (13 : Int) ≤ 60000 ∧ 1 ≤ mc3 ∧ (13 : Int).toNat ≤ ms3 ∧ (∀ (S5 : Sh) (V5 : Mem) (r5 : Int) (mc5 ms5 : Nat), r5 = S3.2.2 + 1 → S5 = nw S3 20 13 → V5 = clr (up V3 x0 4 r3) r5 → mc5 = mc3 - 1 → ms5 = ms3 - (13 : Int).toNat → S5.1 x0 = 11 ∧ 0 ≤ (13 : Int) ∧ (13 : Int) ≤ 60000 ∧ 1 ≤ mc5 ∧ (13 : Int).toNat ≤ ms5 ∧ (∀ (S7 : Sh) (V7 : Mem) (r7 : Int) (mc7 ms7 : Nat), r7 = S5.2.2 + 1 → S7 = nw S5 20 13 → V7 = clr (up V5 x0 6 r5) r7 → mc7 = mc5 - 1 → ms7 = ms5 - (13 : Int).toNat → S7.1 x0 = 11 ∧ Q 0 S7 (up V7 x0 7 r7)))))) : XJ l G bX10_init Q d 0 [vr x0] [] S V mc ms := by
  refine X_aload_n dX10_init_0 rfl ?_
  refine X_objInit dX10_init_1 ⟨km_RX10_3, k_obj⟩ h.1 (Nat.le_of_ble_eq_true rfl) h.2.1 ?_
  refine X_aload_n dX10_init_4 rfl ?_
  refine X_sipush dX10_init_5 (by decide) (by decide) ?_
  refine X_newarr (t := 20) dX10_init_8 k_arr.1 rfl (by decide) (by decide) h.2.2.1 h.2.2.2.1 h.2.2.2.2.1 h.2.2.2.2.2.1 ?_
  generalize hShn2 : nw S 20 1000 = S1
  generalize hVhn2 : clr V (S.2.2 + 1) = V1
  generalize hrhn2 : S.2.2 + 1 = r1 at hVhn2 ⊢
  generalize hmhn2 : mc - 1 = mc1
  generalize hkhn2 : ms - (1000 : Int).toNat = ms1
  have hn2 := h.2.2.2.2.2.2 S1 V1 r1 mc1 ms1 hrhn2.symm hShn2.symm hVhn2.symm hmhn2.symm hkhn2.symm
  refine X_putfield (ci := 10) (k := 2) (z := r1) dX10_init_10 rfl (by decide) kf_RX10_11 (Or.inr (Or.inr (Or.inr (Or.inr ⟨_, rfl⟩)))) (Or.inr ⟨rfl, rfl, rfl⟩) rfl (fun hv => hv) hn2.1 ?_
  refine X_aload_n dX10_init_13 rfl ?_
  refine X_bipush dX10_init_14 (by decide) (by decide) ?_
  refine X_newarr (t := 20) dX10_init_16 k_arr.1 rfl (by decide) (by decide) hn2.2.1 hn2.2.2.1 hn2.2.2.2.1 hn2.2.2.2.2.1 ?_
  generalize hShn4 : nw S1 20 12 = S3
  generalize hVhn4 : clr (up V1 x0 2 r1) (S1.2.2 + 1) = V3
  generalize hrhn4 : S1.2.2 + 1 = r3 at hVhn4 ⊢
  generalize hmhn4 : mc1 - 1 = mc3
  generalize hkhn4 : ms1 - (12 : Int).toNat = ms3
  have hn4 := hn2.2.2.2.2.2 S3 V3 r3 mc3 ms3 hrhn4.symm hShn4.symm hVhn4.symm hmhn4.symm hkhn4.symm
  refine X_putfield (ci := 10) (k := 4) (z := r3) dX10_init_18 rfl (by decide) kf_RX10_15 (Or.inr (Or.inr (Or.inr (Or.inr ⟨_, rfl⟩)))) (Or.inr ⟨rfl, rfl, rfl⟩) rfl (fun hv => hv) hn4.1 ?_
  refine X_aload_n dX10_init_21 rfl ?_
  refine X_bipush dX10_init_22 (by decide) (by decide) ?_
  refine X_newarr (t := 20) dX10_init_24 k_arr.1 rfl (by decide) (by decide) hn4.2.1 hn4.2.2.1 hn4.2.2.2.1 hn4.2.2.2.2.1 ?_
  generalize hShn6 : nw S3 20 13 = S5
  generalize hVhn6 : clr (up V3 x0 4 r3) (S3.2.2 + 1) = V5
  generalize hrhn6 : S3.2.2 + 1 = r5 at hVhn6 ⊢
  generalize hmhn6 : mc3 - 1 = mc5
  generalize hkhn6 : ms3 - (13 : Int).toNat = ms5
  have hn6 := hn4.2.2.2.2.2 S5 V5 r5 mc5 ms5 hrhn6.symm hShn6.symm hVhn6.symm hmhn6.symm hkhn6.symm
  refine X_putfield (ci := 10) (k := 6) (z := r5) dX10_init_26 rfl (by decide) kf_RX10_18 (Or.inr (Or.inr (Or.inr (Or.inr ⟨_, rfl⟩)))) (Or.inr ⟨rfl, rfl, rfl⟩) rfl (fun hv => hv) hn6.1 ?_
  refine X_aload_n dX10_init_29 rfl ?_
  refine X_bipush dX10_init_30 (by decide) (by decide) ?_
  refine X_newarr (t := 20) dX10_init_32 k_arr.1 rfl (by decide) (by decide) hn6.2.1 hn6.2.2.1 hn6.2.2.2.1 hn6.2.2.2.2.1 ?_
  generalize hShn8 : nw S5 20 13 = S7
  generalize hVhn8 : clr (up V5 x0 6 r5) (S5.2.2 + 1) = V7
  generalize hrhn8 : S5.2.2 + 1 = r7 at hVhn8 ⊢
  generalize hmhn8 : mc5 - 1 = mc7
  generalize hkhn8 : ms5 - (13 : Int).toNat = ms7
  have hn8 := hn6.2.2.2.2.2 S7 V7 r7 mc7 ms7 hrhn8.symm hShn8.symm hVhn8.symm hmhn8.symm hkhn8.symm
  refine X_putfield (ci := 10) (k := 7) (z := r7) dX10_init_34 rfl (by decide) kf_RX10_21 (Or.inr (Or.inr (Or.inr (Or.inr ⟨_, rfl⟩)))) (Or.inr ⟨rfl, rfl, rfl⟩) rfl (fun hv => hv) hn8.1 ?_
  exact X_ret (z := 0) dX10_init_37 rfl (fun _ => trivial) hn8.2
theorem qX10_init {l : Launch} {G : GT} {Q : Int → Sh → Mem → Prop} {d : Nat} {S : Sh} {V : Mem} {mc ms : Nat} {x0 : Int} (h : 0 ≤ x0 → XJ l G bX10_init Q d 0 [vr x0] [] S V mc ms) : Ct l G bX10_init Q d mc ms [vr x0] S V := Ct.of okX10_init.1 trivial (Nat.le_of_ble_eq_true rfl) (fun hv => h (hv _ (List.mem_of_getElem? (i := 0) rfl)))
set_option maxRecDepth 10000 in
theorem vX10_beginWith_0 {l : Launch} {G : GT} {Q : Int → Sh → Mem → Prop} {d : Nat} {S : Sh} {V : Mem} {mc ms : Nat} {x0 x1 x2 : Int} (h : S.1 x0 = 11 ∧ CT l G bX10_useItem d mc ms [vr x0, vi x2] S (up (up (up (up V x0 0 x1) x0 1 0) x0 3 0) x0 5 0) (fun z1 S1 V1 mc1 ms1 => S1.1 x0 = 11 ∧ ((V1 x0 1) ≠ 0 → Q 0 S1 V1) ∧ (¬ ((V1 x0 1) ≠ 0) → Q 1 S1 V1))) : XJ l G bX10_beginWith Q d 0 [vr x0, vr x1, vi x2] [] S V mc ms := by
  refine X_aload_n dX10_beginWith_0 rfl ?_
  refine X_aload_n dX10_beginWith_1 rfl ?_
  refine X_putfield (ci := 10) (k := 0) (z := x1) dX10_beginWith_2 rfl (by decide) kf_RX10_24 (Or.inr (Or.inr (Or.inr (Or.inl ⟨_, rfl⟩)))) (Or.inl rfl) rfl (fun hv => hv) h.1 ?_
  refine X_aload_n dX10_beginWith_5 rfl ?_
  refine X_iconst dX10_beginWith_6 (by decide) ?_
  refine X_putfield (ci := 10) (k := 1) (z := 0) dX10_beginWith_7 rfl (by decide) kf_RX10_28 (Or.inr (Or.inr (Or.inl rfl))) (Or.inl rfl) rfl (fun _ => Or.inl rfl) h.1 ?_
  refine X_aload_n dX10_beginWith_10 rfl ?_
  refine X_iconst dX10_beginWith_11 (by decide) ?_
  refine X_putfield (ci := 10) (k := 3) (z := 0) dX10_beginWith_12 rfl (by decide) kf_RX10_32 (Or.inl rfl) (Or.inl rfl) rfl (fun hv => hv) h.1 ?_
  refine X_aload_n dX10_beginWith_15 rfl ?_
  refine X_iconst dX10_beginWith_16 (by decide) ?_
  refine X_putfield (ci := 10) (k := 5) (z := 0) dX10_beginWith_17 rfl (by decide) kf_RX10_36 (Or.inl rfl) (Or.inl rfl) rfl (fun hv => hv) h.1 ?_
  refine X_aload_n dX10_beginWith_20 rfl ?_
  refine X_iload_n dX10_beginWith_21 rfl ?_
  refine X_invV (ci := 10) (as := [vi x2]) (st := []) okX10_useItem dX10_beginWith_22 km_RX10_39 rfl rfl (Nat.le_of_ble_eq_true rfl) rfl rfl h.1 (CT.imp h.2 (fun z1 S1 V1 mc1 ms1 hc2 => ?_))
  refine X_aload_n dX10_beginWith_25 rfl ?_
  refine X_getfield (ci := 10) (k := 1) (v := vi (V1 x0 1)) dX10_beginWith_26 rfl (by decide) kf_RX10_28 rfl hc2.1 ?_
  refine X_if_ne dX10_beginWith_29 (tgt := 36) rfl (fun c3 => ?_) (fun c3 => ?_)
  · refine X_iconst dX10_beginWith_36 (by decide) ?_
    exact X_ret (z := 0) dX10_beginWith_37 rfl (fun _ => Or.inl rfl) (hc2.2.1 c3)
  · refine X_iconst dX10_beginWith_32 (by decide) ?_
    refine X_goto dX10_beginWith_33 (tgt := 37) rfl ?_
    exact X_ret (z := 1) dX10_beginWith_37 rfl (fun _ => Or.inr rfl) (hc2.2.2 c3)
theorem qX10_beginWith {l : Launch} {G : GT} {Q : Int → Sh → Mem → Prop} {d : Nat} {S : Sh} {V : Mem} {mc ms : Nat} {x0 x1 x2 : Int} (h : 0 ≤ x0 → 0 ≤ x1 → inI x2 → XJ l G bX10_beginWith Q d 0 [vr x0, vr x1, vi x2] [] S V mc ms) : Ct l G bX10_beginWith Q d mc ms [vr x0, vr x1, vi x2] S V := Ct.of okX10_beginWith.1 trivial (Nat.le_of_ble_eq_true rfl) (fun hv => h (hv _ (List.mem_of_getElem? (i := 0) rfl)) (hv _ (List.mem_of_getElem? (i := 1) rfl)) (hv _ (List.mem_of_getElem? (i := 2) rfl)))
set_option maxRecDepth 10000 in
theorem vX10_causeKind_0 {l : Launch} {G : GT} {Q : Int → Sh → Mem → Prop} {d : Nat} {S : Sh} {V : Mem} {mc ms : Nat} {x0 x1 : Int} (h : (x1 < 0 → Q (-1) S V) ∧ (¬ (x1 < 0) → S.1 x0 = 11 ∧ (x1 < (V x0 8) → -2147483648 ≤ (V x0 8) - 1 ∧ (V x0 8) - 1 ≤ 2147483647 ∧ -2147483648 ≤ ((V x0 8) - 1) - x1 ∧ ((V x0 8) - 1) - x1 ≤ 2147483647 ∧ S.1 (V x0 6) = 20 ∧ 0 ≤ (((V x0 8) - 1) - x1) ∧ (((V x0 8) - 1) - x1) < S.2.1 (V x0 6) ∧ Q (V (V x0 6) (((V x0 8) - 1) - x1)) S V) ∧ (¬ (x1 < (V x0 8)) → Q (-1) S V))) : XJ l G bX10_causeKind Q d 0 [vr x0, vi x1] [] S V mc ms := by
  refine X_iload_n dX10_causeKind_0 rfl ?_
  refine X_if_lt dX10_causeKind_1 (tgt := 12) rfl (fun c1 => ?_) (fun c1 => ?_)
  · refine X_iconst dX10_causeKind_12 (by decide) ?_
    refine X_goto dX10_causeKind_13 (tgt := 29) rfl ?_
    exact X_ret (z := (-1)) dX10_causeKind_29 rfl (fun hv => vok_h hv) (h.1 c1)
  · refine X_iload_n dX10_causeKind_4 rfl ?_
    refine X_aload_n dX10_causeKind_5 rfl ?_
    refine X_getfield (ci := 10) (k := 8) (v := vi (V x0 8)) dX10_causeKind_6 rfl (by decide) kf_RX10_43 rfl (h.2 c1).1 ?_
    refine X_icmp_lt dX10_causeKind_9 (tgt := 16) rfl (fun c2 => ?_) (fun c2 => ?_)
    · refine X_aload_n dX10_causeKind_16 rfl ?_
      refine X_getfield (ci := 10) (k := 6) (v := vr (V x0 6)) dX10_causeKind_17 rfl (by decide) kf_RX10_18 rfl (h.2 c1).1 ?_
      refine X_aload_n dX10_causeKind_20 rfl ?_
      refine X_getfield (ci := 10) (k := 8) (v := vi (V x0 8)) dX10_causeKind_21 rfl (by decide) kf_RX10_43 rfl (h.2 c1).1 ?_
      refine X_iconst dX10_causeKind_24 (by decide) ?_
      refine X_isubN dX10_causeKind_25 ((h.2 c1).2.1 c2).1 ((h.2 c1).2.1 c2).2.1 ?_
      refine X_iload_n dX10_causeKind_26 rfl ?_
      refine X_isubN dX10_causeKind_27 ((h.2 c1).2.1 c2).2.2.1 ((h.2 c1).2.1 c2).2.2.2.1 ?_
      refine X_iaload dX10_causeKind_28 ((h.2 c1).2.1 c2).2.2.2.2.1 ((h.2 c1).2.1 c2).2.2.2.2.2.1 ((h.2 c1).2.1 c2).2.2.2.2.2.2.1 ?_
      exact X_ret (z := (V (V x0 6) (((V x0 8) - 1) - x1))) dX10_causeKind_29 rfl (fun hv => vok_h hv) ((h.2 c1).2.1 c2).2.2.2.2.2.2.2
    · refine X_iconst dX10_causeKind_12 (by decide) ?_
      refine X_goto dX10_causeKind_13 (tgt := 29) rfl ?_
      exact X_ret (z := (-1)) dX10_causeKind_29 rfl (fun hv => vok_h hv) ((h.2 c1).2.2 c2)
theorem qX10_causeKind {l : Launch} {G : GT} {Q : Int → Sh → Mem → Prop} {d : Nat} {S : Sh} {V : Mem} {mc ms : Nat} {x0 x1 : Int} (h : 0 ≤ x0 → inI x1 → XJ l G bX10_causeKind Q d 0 [vr x0, vi x1] [] S V mc ms) : Ct l G bX10_causeKind Q d mc ms [vr x0, vi x1] S V := Ct.of okX10_causeKind.1 trivial (Nat.le_of_ble_eq_true rfl) (fun hv => h (hv _ (List.mem_of_getElem? (i := 0) rfl)) (hv _ (List.mem_of_getElem? (i := 1) rfl)))
set_option maxRecDepth 10000 in
theorem vX10_causeItem_0 {l : Launch} {G : GT} {Q : Int → Sh → Mem → Prop} {d : Nat} {S : Sh} {V : Mem} {mc ms : Nat} {x0 x1 : Int} (h : (x1 < 0 → Q (-1) S V) ∧ (¬ (x1 < 0) → S.1 x0 = 11 ∧ (x1 < (V x0 8) → -2147483648 ≤ (V x0 8) - 1 ∧ (V x0 8) - 1 ≤ 2147483647 ∧ -2147483648 ≤ ((V x0 8) - 1) - x1 ∧ ((V x0 8) - 1) - x1 ≤ 2147483647 ∧ S.1 (V x0 7) = 20 ∧ 0 ≤ (((V x0 8) - 1) - x1) ∧ (((V x0 8) - 1) - x1) < S.2.1 (V x0 7) ∧ Q (V (V x0 7) (((V x0 8) - 1) - x1)) S V) ∧ (¬ (x1 < (V x0 8)) → Q (-1) S V))) : XJ l G bX10_causeItem Q d 0 [vr x0, vi x1] [] S V mc ms := by
  refine X_iload_n dX10_causeItem_0 rfl ?_
  refine X_if_lt dX10_causeItem_1 (tgt := 12) rfl (fun c1 => ?_) (fun c1 => ?_)
  · refine X_iconst dX10_causeItem_12 (by decide) ?_
    refine X_goto dX10_causeItem_13 (tgt := 29) rfl ?_
    exact X_ret (z := (-1)) dX10_causeItem_29 rfl (fun hv => vok_h hv) (h.1 c1)
  · refine X_iload_n dX10_causeItem_4 rfl ?_
    refine X_aload_n dX10_causeItem_5 rfl ?_
    refine X_getfield (ci := 10) (k := 8) (v := vi (V x0 8)) dX10_causeItem_6 rfl (by decide) kf_RX10_43 rfl (h.2 c1).1 ?_
    refine X_icmp_lt dX10_causeItem_9 (tgt := 16) rfl (fun c2 => ?_) (fun c2 => ?_)
    · refine X_aload_n dX10_causeItem_16 rfl ?_
      refine X_getfield (ci := 10) (k := 7) (v := vr (V x0 7)) dX10_causeItem_17 rfl (by decide) kf_RX10_21 rfl (h.2 c1).1 ?_
      refine X_aload_n dX10_causeItem_20 rfl ?_
      refine X_getfield (ci := 10) (k := 8) (v := vi (V x0 8)) dX10_causeItem_21 rfl (by decide) kf_RX10_43 rfl (h.2 c1).1 ?_
      refine X_iconst dX10_causeItem_24 (by decide) ?_
      refine X_isubN dX10_causeItem_25 ((h.2 c1).2.1 c2).1 ((h.2 c1).2.1 c2).2.1 ?_
      refine X_iload_n dX10_causeItem_26 rfl ?_
      refine X_isubN dX10_causeItem_27 ((h.2 c1).2.1 c2).2.2.1 ((h.2 c1).2.1 c2).2.2.2.1 ?_
      refine X_iaload dX10_causeItem_28 ((h.2 c1).2.1 c2).2.2.2.2.1 ((h.2 c1).2.1 c2).2.2.2.2.2.1 ((h.2 c1).2.1 c2).2.2.2.2.2.2.1 ?_
      exact X_ret (z := (V (V x0 7) (((V x0 8) - 1) - x1))) dX10_causeItem_29 rfl (fun hv => vok_h hv) ((h.2 c1).2.1 c2).2.2.2.2.2.2.2
    · refine X_iconst dX10_causeItem_12 (by decide) ?_
      refine X_goto dX10_causeItem_13 (tgt := 29) rfl ?_
      exact X_ret (z := (-1)) dX10_causeItem_29 rfl (fun hv => vok_h hv) ((h.2 c1).2.2 c2)
theorem qX10_causeItem {l : Launch} {G : GT} {Q : Int → Sh → Mem → Prop} {d : Nat} {S : Sh} {V : Mem} {mc ms : Nat} {x0 x1 : Int} (h : 0 ≤ x0 → inI x1 → XJ l G bX10_causeItem Q d 0 [vr x0, vi x1] [] S V mc ms) : Ct l G bX10_causeItem Q d mc ms [vr x0, vi x1] S V := Ct.of okX10_causeItem.1 trivial (Nat.le_of_ble_eq_true rfl) (fun hv => h (hv _ (List.mem_of_getElem? (i := 0) rfl)) (hv _ (List.mem_of_getElem? (i := 1) rfl)))
set_option maxRecDepth 10000 in
theorem vX10_useItem_0 {l : Launch} {G : GT} {Q : Int → Sh → Mem → Prop} {d : Nat} {S : Sh} {V : Mem} {mc ms : Nat} {x0 x1 : Int} (h : S.1 x0 = 11 ∧ S.1 (V x0 0) = 1 ∧ CT l G bX0_stateOf d mc ms [vr (V x0 0), vi x1] S V (fun z1 S1 V1 mc1 ms1 => (z1 ≠ 2 → (z1 ≠ 0 → Q 0 S1 V1) ∧ (¬ (z1 ≠ 0) → S1.1 x0 = 11 ∧ CT l G bX10_startItem d mc1 ms1 [vr x0, vi x1] S1 V1 (fun z5 S5 V5 mc5 ms5 => Q 0 S5 V5))) ∧ (¬ (z1 ≠ 2) → S1.1 x0 = 11 ∧ CT l G bX10_fail d mc1 ms1 [vr x0, vi 2, vi x1] S1 V1 (fun z7 S7 V7 mc7 ms7 => Q 0 S7 V7)))) : XJ l G bX10_useItem Q d 0 [vr x0, vi x1, vu] [] S V mc ms := by
  refine X_aload_n dX10_useItem_0 rfl ?_
  refine X_getfield (ci := 10) (k := 0) (v := vr (V x0 0)) dX10_useItem_1 rfl (by decide) kf_RX10_24 rfl h.1 ?_
  refine X_iload_n dX10_useItem_4 rfl ?_
  refine X_invV (ci := 0) (as := [vi x1]) (st := []) okX0_stateOf dX10_useItem_5 km_RX10_46 rfl rfl (Nat.le_of_ble_eq_true rfl) rfl rfl h.2.1 (CT.imp h.2.2 (fun z1 S1 V1 mc1 ms1 hc2 => ?_))
  refine X_istore_n dX10_useItem_8 (by decide) rfl ?_
  refine X_iload_n dX10_useItem_9 rfl ?_
  refine X_iconst dX10_useItem_10 (by decide) ?_
  refine X_icmp_ne dX10_useItem_11 (tgt := 23) rfl (fun c3 => ?_) (fun c3 => ?_)
  · refine X_iload_n dX10_useItem_23 rfl ?_
    refine X_if_ne dX10_useItem_24 (tgt := 32) rfl (fun c4 => ?_) (fun c4 => ?_)
    · exact X_ret (z := 0) dX10_useItem_32 rfl (fun _ => trivial) ((hc2.1 c3).1 c4)
    · refine X_aload_n dX10_useItem_27 rfl ?_
      refine X_iload_n dX10_useItem_28 rfl ?_
      refine X_invV (ci := 10) (as := [vi x1]) (st := []) okX10_startItem dX10_useItem_29 km_RX10_56 rfl rfl (Nat.le_of_ble_eq_true rfl) rfl rfl ((hc2.1 c3).2 c4).1 (CT.imp ((hc2.1 c3).2 c4).2 (fun z5 S5 V5 mc5 ms5 hc6 => ?_))
      exact X_ret (z := 0) dX10_useItem_32 rfl (fun _ => trivial) hc6
  · refine X_aload_n dX10_useItem_14 rfl ?_
    refine X_iconst dX10_useItem_15 (by decide) ?_
    refine X_iload_n dX10_useItem_16 rfl ?_
    refine X_invV (ci := 10) (as := [vi 2, vi x1]) (st := []) okX10_fail dX10_useItem_17 km_RX10_52 rfl rfl (Nat.le_of_ble_eq_true rfl) rfl rfl (hc2.2 c3).1 (CT.imp (hc2.2 c3).2 (fun z7 S7 V7 mc7 ms7 hc8 => ?_))
    refine X_goto dX10_useItem_20 (tgt := 32) rfl ?_
    exact X_ret (z := 0) dX10_useItem_32 rfl (fun _ => trivial) hc8
theorem qX10_useItem {l : Launch} {G : GT} {Q : Int → Sh → Mem → Prop} {d : Nat} {S : Sh} {V : Mem} {mc ms : Nat} {x0 x1 : Int} (h : 0 ≤ x0 → inI x1 → XJ l G bX10_useItem Q d 0 [vr x0, vi x1, vu] [] S V mc ms) : Ct l G bX10_useItem Q d mc ms [vr x0, vi x1] S V := Ct.of okX10_useItem.1 trivial (Nat.le_of_ble_eq_true rfl) (fun hv => h (hv _ (List.mem_of_getElem? (i := 0) rfl)) (hv _ (List.mem_of_getElem? (i := 1) rfl)))
set_option maxRecDepth 10000 in
theorem vX10_perform_0 {l : Launch} {G : GT} {Q : Int → Sh → Mem → Prop} {d : Nat} {S : Sh} {V : Mem} {mc ms : Nat} {x0 x1 x2 x3 : Int} (h : S.1 x0 = 11 ∧ S.1 x1 = 4 ∧ CT l G bX3_constantAt d mc ms [vr x1, vi x2] S (up V x0 9 0) (fun z1 S1 V1 mc1 ms1 => (z1 = 0 → S1.1 x0 = 11 ∧ CT l G bX10_performShared d mc1 ms1 [vr x0, vr x1, vi x2, vi x3] S1 V1 (fun z4 S4 V4 mc4 ms4 => Q z4 S4 V4)) ∧ (¬ (z1 = 0) → S1.1 z1 = 3 ∧ S1.1 (V1 z1 3) = 20 ∧ 0 ≤ x3 ∧ x3 < S1.2.1 (V1 z1 3) ∧ ((V1 (V1 z1 3) x3) ≠ (-1) → S1.1 x0 = 11 ∧ CT l G bX10_workOut d mc1 ms1 [vr x0, vi (V1 (V1 z1 3) x3), vr x1, vi x2, vi x3] S1 V1 (fun z7 S7 V7 mc7 ms7 => Q z7 S7 V7)) ∧ (¬ ((V1 (V1 z1 3) x3) ≠ (-1)) → S1.1 x0 = 11 ∧ CT l G bX10_performShared d mc1 ms1 [vr x0, vr x1, vi x2, vi x3] S1 V1 (fun z9 S9 V9 mc9 ms9 => Q z9 S9 V9))))) : XJ l G bX10_perform Q d 0 [vr x0, vr x1, vi x2, vi x3, vu] [] S V mc ms := by
  refine X_aload_n dX10_perform_0 rfl ?_
  refine X_iconst dX10_perform_1 (by decide) ?_
  refine X_putfield (ci := 10) (k := 9) (z := 0) dX10_perform_2 rfl (by decide) kf_RX10_59 (Or.inr (Or.inr (Or.inl rfl))) (Or.inl rfl) rfl (fun _ => Or.inl rfl) h.1 ?_
  refine X_aload_n dX10_perform_5 rfl ?_
  refine X_iload_n dX10_perform_6 rfl ?_
  refine X_invV (ci := 3) (as := [vi x2]) (st := []) okX3_constantAt dX10_perform_7 km_RX10_62 rfl rfl (Nat.le_of_ble_eq_true rfl) rfl rfl h.2.1 (CT.imp h.2.2 (fun z1 S1 V1 mc1 ms1 hc2 => ?_))
  refine X_astore dX10_perform_10 (by decide) rfl ?_
  refine X_aload dX10_perform_12 rfl ?_
  refine X_ifnull dX10_perform_14 (tgt := 28) rfl (fun c3 => ?_) (fun c3 => ?_)
  · refine X_aload_n dX10_perform_28 rfl ?_
    refine X_aload_n dX10_perform_29 rfl ?_
    refine X_iload_n dX10_perform_30 rfl ?_
    refine X_iload_n dX10_perform_31 rfl ?_
    refine X_invV (ci := 10) (as := [vr x1, vi x2, vi x3]) (st := []) okX10_performShared dX10_perform_32 km_RX10_73 rfl rfl (Nat.le_of_ble_eq_true rfl) rfl rfl (hc2.1 c3).1 (CT.imp (hc2.1 c3).2 (fun z4 S4 V4 mc4 ms4 hc5 => ?_))
    exact X_ret (z := z4) dX10_perform_35 rfl (fun hv => vok_h hv) hc5
  · refine X_aload dX10_perform_17 rfl ?_
    refine X_getfield (ci := 2) (k := 3) (v := vr (V1 z1 3)) dX10_perform_19 rfl (by decide) kf_RX10_68 rfl (hc2.2 c3).1 ?_
    refine X_iload_n dX10_perform_22 rfl ?_
    refine X_iaload dX10_perform_23 (hc2.2 c3).2.1 (hc2.2 c3).2.2.1 (hc2.2 c3).2.2.2.1 ?_
    refine X_iconst dX10_perform_24 (by decide) ?_
    refine X_icmp_ne dX10_perform_25 (tgt := 36) rfl (fun c6 => ?_) (fun c6 => ?_)
    · refine X_aload_n dX10_perform_36 rfl ?_
      refine X_aload dX10_perform_37 rfl ?_
      refine X_getfield (ci := 2) (k := 3) (v := vr (V1 z1 3)) dX10_perform_39 rfl (by decide) kf_RX10_68 rfl (hc2.2 c3).1 ?_
      refine X_iload_n dX10_perform_42 rfl ?_
      refine X_iaload dX10_perform_43 (hc2.2 c3).2.1 (hc2.2 c3).2.2.1 (hc2.2 c3).2.2.2.1 ?_
      refine X_aload_n dX10_perform_44 rfl ?_
      refine X_iload_n dX10_perform_45 rfl ?_
      refine X_iload_n dX10_perform_46 rfl ?_
      refine X_invV (ci := 10) (as := [vi (V1 (V1 z1 3) x3), vr x1, vi x2, vi x3]) (st := []) okX10_workOut dX10_perform_47 km_RX10_77 rfl rfl (Nat.le_of_ble_eq_true rfl) rfl rfl ((hc2.2 c3).2.2.2.2.1 c6).1 (CT.imp ((hc2.2 c3).2.2.2.2.1 c6).2 (fun z7 S7 V7 mc7 ms7 hc8 => ?_))
      exact X_ret (z := z7) dX10_perform_50 rfl (fun hv => vok_h hv) hc8
    · refine X_aload_n dX10_perform_28 rfl ?_
      refine X_aload_n dX10_perform_29 rfl ?_
      refine X_iload_n dX10_perform_30 rfl ?_
      refine X_iload_n dX10_perform_31 rfl ?_
      refine X_invV (ci := 10) (as := [vr x1, vi x2, vi x3]) (st := []) okX10_performShared dX10_perform_32 km_RX10_73 rfl rfl (Nat.le_of_ble_eq_true rfl) rfl rfl ((hc2.2 c3).2.2.2.2.2 c6).1 (CT.imp ((hc2.2 c3).2.2.2.2.2 c6).2 (fun z9 S9 V9 mc9 ms9 hc10 => ?_))
      exact X_ret (z := z9) dX10_perform_35 rfl (fun hv => vok_h hv) hc10
theorem qX10_perform {l : Launch} {G : GT} {Q : Int → Sh → Mem → Prop} {d : Nat} {S : Sh} {V : Mem} {mc ms : Nat} {x0 x1 x2 x3 : Int} (h : 0 ≤ x0 → 0 ≤ x1 → inI x2 → inI x3 → XJ l G bX10_perform Q d 0 [vr x0, vr x1, vi x2, vi x3, vu] [] S V mc ms) : Ct l G bX10_perform Q d mc ms [vr x0, vr x1, vi x2, vi x3] S V := Ct.of okX10_perform.1 trivial (Nat.le_of_ble_eq_true rfl) (fun hv => h (hv _ (List.mem_of_getElem? (i := 0) rfl)) (hv _ (List.mem_of_getElem? (i := 1) rfl)) (hv _ (List.mem_of_getElem? (i := 2) rfl)) (hv _ (List.mem_of_getElem? (i := 3) rfl)))
set_option maxRecDepth 10000 in
theorem vX10_performShared_0 {l : Launch} {G : GT} {Q : Int → Sh → Mem → Prop} {d : Nat} {S : Sh} {V : Mem} {mc ms : Nat} {x0 x1 x2 x3 : Int} (h : (x3 < 0 → S.1 x0 = 11 ∧ CT l G bX10_fail d mc ms [vr x0, vi 5, vi (-1)] S V (fun z2 S2 V2 mc2 ms2 => Q 0 S2 V2)) ∧ (¬ (x3 < 0) → S.1 x1 = 4 ∧ S.1 (V x1 6) = 20 ∧ 0 ≤ x3 ∧ x3 < S.2.1 (V x1 6) ∧ ((V (V x1 6) x3) ≠ (-1) → S.1 x0 = 11 ∧ CT l G bX10_workOut d mc ms [vr x0, vi (V (V x1 6) x3), vr x1, vi x2, vi (-1)] S V (fun z5 S5 V5 mc5 ms5 => Q z5 S5 V5)) ∧ (¬ ((V (V x1 6) x3) ≠ (-1)) → S.1 x0 = 11 ∧ CT l G bX10_fail d mc ms [vr x0, vi 5, vi (-1)] S V (fun z7 S7 V7 mc7 ms7 => Q 0 S7 V7)))) : XJ l G bX10_performShared Q d 0 [vr x0, vr x1, vi x2, vi x3] [] S V mc ms := by
  refine X_iload_n dX10_performShared_0 rfl ?_
  refine X_if_lt dX10_performShared_1 (tgt := 14) rfl (fun c1 => ?_) (fun c1 => ?_)
  · refine X_aload_n dX10_performShared_14 rfl ?_
    refine X_iconst dX10_performShared_15 (by decide) ?_
    refine X_iconst dX10_performShared_16 (by decide) ?_
    refine X_invV (ci := 10) (as := [vi 5, vi (-1)]) (st := []) okX10_fail dX10_performShared_17 km_RX10_52 rfl rfl (Nat.le_of_ble_eq_true rfl) rfl rfl (h.1 c1).1 (CT.imp (h.1 c1).2 (fun z2 S2 V2 mc2 ms2 hc3 => ?_))
    refine X_iconst dX10_performShared_20 (by decide) ?_
    exact X_ret (z := 0) dX10_performShared_21 rfl (fun hv => vok_h hv) hc3
  · refine X_aload_n dX10_performShared_4 rfl ?_
    refine X_getfield (ci := 3) (k := 6) (v := vr (V x1 6)) dX10_performShared_5 rfl (by decide) kf_RX10_81 rfl (h.2 c1).1 ?_
    refine X_iload_n dX10_performShared_8 rfl ?_
    refine X_iaload dX10_performShared_9 (h.2 c1).2.1 (h.2 c1).2.2.1 (h.2 c1).2.2.2.1 ?_
    refine X_iconst dX10_performShared_10 (by decide) ?_
    refine X_icmp_ne dX10_performShared_11 (tgt := 22) rfl (fun c4 => ?_) (fun c4 => ?_)
    · refine X_aload_n dX10_performShared_22 rfl ?_
      refine X_aload_n dX10_performShared_23 rfl ?_
      refine X_getfield (ci := 3) (k := 6) (v := vr (V x1 6)) dX10_performShared_24 rfl (by decide) kf_RX10_81 rfl (h.2 c1).1 ?_
      refine X_iload_n dX10_performShared_27 rfl ?_
      refine X_iaload dX10_performShared_28 (h.2 c1).2.1 (h.2 c1).2.2.1 (h.2 c1).2.2.2.1 ?_
      refine X_aload_n dX10_performShared_29 rfl ?_
      refine X_iload_n dX10_performShared_30 rfl ?_
      refine X_iconst dX10_performShared_31 (by decide) ?_
      refine X_invV (ci := 10) (as := [vi (V (V x1 6) x3), vr x1, vi x2, vi (-1)]) (st := []) okX10_workOut dX10_performShared_32 km_RX10_77 rfl rfl (Nat.le_of_ble_eq_true rfl) rfl rfl ((h.2 c1).2.2.2.2.1 c4).1 (CT.imp ((h.2 c1).2.2.2.2.1 c4).2 (fun z5 S5 V5 mc5 ms5 hc6 => ?_))
      exact X_ret (z := z5) dX10_performShared_35 rfl (fun hv => vok_h hv) hc6
    · refine X_aload_n dX10_performShared_14 rfl ?_
      refine X_iconst dX10_performShared_15 (by decide) ?_
      refine X_iconst dX10_performShared_16 (by decide) ?_
      refine X_invV (ci := 10) (as := [vi 5, vi (-1)]) (st := []) okX10_fail dX10_performShared_17 km_RX10_52 rfl rfl (Nat.le_of_ble_eq_true rfl) rfl rfl ((h.2 c1).2.2.2.2.2 c4).1 (CT.imp ((h.2 c1).2.2.2.2.2 c4).2 (fun z7 S7 V7 mc7 ms7 hc8 => ?_))
      refine X_iconst dX10_performShared_20 (by decide) ?_
      exact X_ret (z := 0) dX10_performShared_21 rfl (fun hv => vok_h hv) hc8
theorem qX10_performShared {l : Launch} {G : GT} {Q : Int → Sh → Mem → Prop} {d : Nat} {S : Sh} {V : Mem} {mc ms : Nat} {x0 x1 x2 x3 : Int} (h : 0 ≤ x0 → 0 ≤ x1 → inI x2 → inI x3 → XJ l G bX10_performShared Q d 0 [vr x0, vr x1, vi x2, vi x3] [] S V mc ms) : Ct l G bX10_performShared Q d mc ms [vr x0, vr x1, vi x2, vi x3] S V := Ct.of okX10_performShared.1 trivial (Nat.le_of_ble_eq_true rfl) (fun hv => h (hv _ (List.mem_of_getElem? (i := 0) rfl)) (hv _ (List.mem_of_getElem? (i := 1) rfl)) (hv _ (List.mem_of_getElem? (i := 2) rfl)) (hv _ (List.mem_of_getElem? (i := 3) rfl)))
set_option maxRecDepth 10000 in
theorem vX10_choose_0 {l : Launch} {G : GT} {Q : Int → Sh → Mem → Prop} {d : Nat} {S : Sh} {V : Mem} {mc ms : Nat} {x0 x1 x2 x3 : Int} (h : XJ l G bX10_choose Q d 3 [vr x0, vr x1, vr x2, vi x3, vi 0, vu] [] S V mc ms) : XJ l G bX10_choose Q d 0 [vr x0, vr x1, vr x2, vi x3, vu, vu] [] S V mc ms := by
  refine X_iconst dX10_choose_0 (by decide) ?_
  refine X_istore dX10_choose_1 (by decide) rfl ?_
  exact h
set_option maxRecDepth 10000 in
theorem vX10_choose_3 {l : Launch} {G : GT} {Q : Int → Sh → Mem → Prop} {d : Nat} {S : Sh} {V : Mem} {mc ms : Nat} {x0 x1 x2 x3 x4 : Int} (h : S.1 x2 = 8 ∧ ((V x2 3) ≤ x4 → S.1 x0 = 11 ∧ CT l G bX10_workOut d mc ms [vr x0, vi (V x2 4), vr x1, vi x3, vi (-1)] S V (fun z2 S2 V2 mc2 ms2 => Q z2 S2 V2)) ∧ (¬ ((V x2 3) ≤ x4) → S.1 (V x2 2) = 20 ∧ 0 ≤ x4 ∧ x4 < S.2.1 (V x2 2) ∧ ((V (V x2 2) x4) < 0 → -2147483648 ≤ x4 + 1 ∧ x4 + 1 ≤ 2147483647 ∧ XJ l G bX10_choose Q d 3 [vr x0, vr x1, vr x2, vi x3, vi (x4 + 1), vu] [] S V mc ms) ∧ (¬ ((V (V x2 2) x4) < 0) → S.1 x0 = 11 ∧ S.1 (V x0 0) = 1 ∧ S.1 (V (V x0 0) 3) = 2 ∧ ((V (V (V x0 0) 3) 2) ≤ (V (V x2 2) x4) → -2147483648 ≤ x4 + 1 ∧ x4 + 1 ≤ 2147483647 ∧ XJ l G bX10_choose Q d 3 [vr x0, vr x1, vr x2, vi x3, vi (x4 + 1), vu] [] S V mc ms) ∧ (¬ ((V (V (V x0 0) 3) 2) ≤ (V (V x2 2) x4)) → S.1 (V (V (V x0 0) 3) 1) = 20 ∧ 0 ≤ (V (V x2 2) x4) ∧ (V (V x2 2) x4) < S.2.1 (V (V (V x0 0) 3) 1) ∧ ((V (V (V (V x0 0) 3) 1) (V (V x2 2) x4)) ≠ x3 → -2147483648 ≤ x4 + 1 ∧ x4 + 1 ≤ 2147483647 ∧ XJ l G bX10_choose Q d 3 [vr x0, vr x1, vr x2, vi x3, vi (x4 + 1), vu] [] S V mc ms) ∧ (¬ ((V (V (V (V x0 0) 3) 1) (V (V x2 2) x4)) ≠ x3) → -2147483648 ≤ (V (V x2 2) x4) + 1 ∧ (V (V x2 2) x4) + 1 ≤ 2147483647 ∧ CT l G bX10_workOut d mc ms [vr x0, vi ((V (V x2 2) x4) + 1), vr x1, vi x3, vi (-1)] S V (fun z7 S7 V7 mc7 ms7 => Q z7 S7 V7)))))) : XJ l G bX10_choose Q d 3 [vr x0, vr x1, vr x2, vi x3, vi x4, vu] [] S V mc ms := by
  refine X_iload dX10_choose_3 rfl ?_
  refine X_aload_n dX10_choose_5 rfl ?_
  refine X_getfield (ci := 7) (k := 3) (v := vi (V x2 3)) dX10_choose_6 rfl (by decide) kf_RX10_82 rfl h.1 ?_
  refine X_icmp_ge dX10_choose_9 (tgt := 76) rfl (fun c1 => ?_) (fun c1 => ?_)
  · refine X_aload_n dX10_choose_76 rfl ?_
    refine X_aload_n dX10_choose_77 rfl ?_
    refine X_getfield (ci := 7) (k := 4) (v := vi (V x2 4)) dX10_choose_78 rfl (by decide) kf_RX10_102 rfl h.1 ?_
    refine X_aload_n dX10_choose_81 rfl ?_
    refine X_iload_n dX10_choose_82 rfl ?_
    refine X_iconst dX10_choose_83 (by decide) ?_
    refine X_invV (ci := 10) (as := [vi (V x2 4), vr x1, vi x3, vi (-1)]) (st := []) okX10_workOut dX10_choose_84 km_RX10_77 rfl rfl (Nat.le_of_ble_eq_true rfl) rfl rfl (h.2.1 c1).1 (CT.imp (h.2.1 c1).2 (fun z2 S2 V2 mc2 ms2 hc3 => ?_))
    exact X_ret (z := z2) dX10_choose_87 rfl (fun hv => vok_h hv) hc3
  · refine X_aload_n dX10_choose_12 rfl ?_
    refine X_getfield (ci := 7) (k := 2) (v := vr (V x2 2)) dX10_choose_13 rfl (by decide) kf_RX10_87 rfl h.1 ?_
    refine X_iload dX10_choose_16 rfl ?_
    refine X_iaload dX10_choose_18 (h.2.2 c1).1 (h.2.2 c1).2.1 (h.2.2 c1).2.2.1 ?_
    refine X_istore dX10_choose_19 (by decide) rfl ?_
    refine X_iload dX10_choose_21 rfl ?_
    refine X_if_lt dX10_choose_23 (tgt := 70) rfl (fun c4 => ?_) (fun c4 => ?_)
    · refine X_iincN dX10_choose_70 rfl (by decide) rfl (e := x4 + 1) rfl ((h.2.2 c1).2.2.2.1 c4).1 ((h.2.2 c1).2.2.2.1 c4).2.1 ?_
      refine X_goto dX10_choose_73 (tgt := 3) rfl ?_
      exact X_weak [false, false, false, false, false, true] ((h.2.2 c1).2.2.2.1 c4).2.2
    · refine X_iload dX10_choose_26 rfl ?_
      refine X_aload_n dX10_choose_28 rfl ?_
      refine X_getfield (ci := 10) (k := 0) (v := vr (V x0 0)) dX10_choose_29 rfl (by decide) kf_RX10_24 rfl ((h.2.2 c1).2.2.2.2 c4).1 ?_
      refine X_getfield (ci := 0) (k := 3) (v := vr (V (V x0 0) 3)) dX10_choose_32 rfl (by decide) kf_RX10_90 rfl ((h.2.2 c1).2.2.2.2 c4).2.1 ?_
      refine X_getfield (ci := 1) (k := 2) (v := vi (V (V (V x0 0) 3) 2)) dX10_choose_35 rfl (by decide) kf_RX10_94 rfl ((h.2.2 c1).2.2.2.2 c4).2.2.1 ?_
      refine X_icmp_ge dX10_choose_38 (tgt := 70) rfl (fun c5 => ?_) (fun c5 => ?_)
      · refine X_iincN dX10_choose_70 rfl (by decide) rfl (e := x4 + 1) rfl (((h.2.2 c1).2.2.2.2 c4).2.2.2.1 c5).1 (((h.2.2 c1).2.2.2.2 c4).2.2.2.1 c5).2.1 ?_
        refine X_goto dX10_choose_73 (tgt := 3) rfl ?_
        exact X_weak [false, false, false, false, false, true] (((h.2.2 c1).2.2.2.2 c4).2.2.2.1 c5).2.2
      · refine X_aload_n dX10_choose_41 rfl ?_
        refine X_getfield (ci := 10) (k := 0) (v := vr (V x0 0)) dX10_choose_42 rfl (by decide) kf_RX10_24 rfl ((h.2.2 c1).2.2.2.2 c4).1 ?_
        refine X_getfield (ci := 0) (k := 3) (v := vr (V (V x0 0) 3)) dX10_choose_45 rfl (by decide) kf_RX10_90 rfl ((h.2.2 c1).2.2.2.2 c4).2.1 ?_
        refine X_getfield (ci := 1) (k := 1) (v := vr (V (V (V x0 0) 3) 1)) dX10_choose_48 rfl (by decide) kf_RX10_99 rfl ((h.2.2 c1).2.2.2.2 c4).2.2.1 ?_
        refine X_iload dX10_choose_51 rfl ?_
        refine X_iaload dX10_choose_53 (((h.2.2 c1).2.2.2.2 c4).2.2.2.2 c5).1 (((h.2.2 c1).2.2.2.2 c4).2.2.2.2 c5).2.1 (((h.2.2 c1).2.2.2.2 c4).2.2.2.2 c5).2.2.1 ?_
        refine X_iload_n dX10_choose_54 rfl ?_
        refine X_icmp_ne dX10_choose_55 (tgt := 70) rfl (fun c6 => ?_) (fun c6 => ?_)
        · refine X_iincN dX10_choose_70 rfl (by decide) rfl (e := x4 + 1) rfl ((((h.2.2 c1).2.2.2.2 c4).2.2.2.2 c5).2.2.2.1 c6).1 ((((h.2.2 c1).2.2.2.2 c4).2.2.2.2 c5).2.2.2.1 c6).2.1 ?_
          refine X_goto dX10_choose_73 (tgt := 3) rfl ?_
          exact X_weak [false, false, false, false, false, true] ((((h.2.2 c1).2.2.2.2 c4).2.2.2.2 c5).2.2.2.1 c6).2.2
        · refine X_aload_n dX10_choose_58 rfl ?_
          refine X_iload dX10_choose_59 rfl ?_
          refine X_iconst dX10_choose_61 (by decide) ?_
          refine X_iaddN dX10_choose_62 ((((h.2.2 c1).2.2.2.2 c4).2.2.2.2 c5).2.2.2.2 c6).1 ((((h.2.2 c1).2.2.2.2 c4).2.2.2.2 c5).2.2.2.2 c6).2.1 ?_
          refine X_aload_n dX10_choose_63 rfl ?_
          refine X_iload_n dX10_choose_64 rfl ?_
          refine X_iconst dX10_choose_65 (by decide) ?_
          refine X_invV (ci := 10) (as := [vi ((V (V x2 2) x4) + 1), vr x1, vi x3, vi (-1)]) (st := []) okX10_workOut dX10_choose_66 km_RX10_77 rfl rfl (Nat.le_of_ble_eq_true rfl) rfl rfl ((h.2.2 c1).2.2.2.2 c4).1 (CT.imp ((((h.2.2 c1).2.2.2.2 c4).2.2.2.2 c5).2.2.2.2 c6).2.2 (fun z7 S7 V7 mc7 ms7 hc8 => ?_))
          exact X_ret (z := z7) dX10_choose_69 rfl (fun hv => vok_h hv) hc8
theorem qX10_choose {l : Launch} {G : GT} {Q : Int → Sh → Mem → Prop} {d : Nat} {S : Sh} {V : Mem} {mc ms : Nat} {x0 x1 x2 x3 : Int} (h : 0 ≤ x0 → 0 ≤ x1 → 0 ≤ x2 → inI x3 → XJ l G bX10_choose Q d 0 [vr x0, vr x1, vr x2, vi x3, vu, vu] [] S V mc ms) : Ct l G bX10_choose Q d mc ms [vr x0, vr x1, vr x2, vi x3] S V := Ct.of okX10_choose.1 trivial (Nat.le_of_ble_eq_true rfl) (fun hv => h (hv _ (List.mem_of_getElem? (i := 0) rfl)) (hv _ (List.mem_of_getElem? (i := 1) rfl)) (hv _ (List.mem_of_getElem? (i := 2) rfl)) (hv _ (List.mem_of_getElem? (i := 3) rfl)))
set_option maxRecDepth 10000 in
theorem vX10_fail_0 {l : Launch} {G : GT} {Q : Int → Sh → Mem → Prop} {d : Nat} {S : Sh} {V : Mem} {mc ms : Nat} {x0 x1 x2 : Int} (h : S.1 x0 = 11 ∧ S.1 (V x0 6) = 20 ∧ (0 : Int) ≤ 0 ∧ 0 < S.2.1 (V x0 6) ∧ S.1 (V x0 7) = 20 ∧ 0 < S.2.1 (V x0 7) ∧ Q 0 S (up (up (up (up V x0 1 1) (V x0 6) 0 x1) (V x0 7) 0 x2) x0 8 1)) : XJ l G bX10_fail Q d 0 [vr x0, vi x1, vi x2] [] S V mc ms := by
  refine X_aload_n dX10_fail_0 rfl ?_
  refine X_iconst dX10_fail_1 (by decide) ?_
  refine X_putfield (ci := 10) (k := 1) (z := 1) dX10_fail_2 rfl (by decide) kf_RX10_28 (Or.inr (Or.inr (Or.inl rfl))) (Or.inl rfl) rfl (fun _ => Or.inr rfl) h.1 ?_
  refine X_aload_n dX10_fail_5 rfl ?_
  refine X_getfield (ci := 10) (k := 6) (v := vr (V x0 6)) dX10_fail_6 rfl (by decide) kf_RX10_18 (congrArg vr (up_ne (Or.inr (by decide)))) h.1 ?_
  refine X_iconst dX10_fail_9 (by decide) ?_
  refine X_iload_n dX10_fail_10 rfl ?_
  refine X_iastore dX10_fail_11 h.2.1 h.2.2.1 h.2.2.2.1 ?_
  refine X_aload_n dX10_fail_12 rfl ?_
  refine X_getfield (ci := 10) (k := 7) (v := vr (V x0 7)) dX10_fail_13 rfl (by decide) kf_RX10_21 (congrArg vr ((up_ne (Or.inl (tag_ne h.1 h.2.1 (by decide)))).trans (up_ne (Or.inr (by decide))))) h.1 ?_
  refine X_iconst dX10_fail_16 (by decide) ?_
  refine X_iload_n dX10_fail_17 rfl ?_
  refine X_iastore dX10_fail_18 h.2.2.2.2.1 h.2.2.1 h.2.2.2.2.2.1 ?_
  refine X_aload_n dX10_fail_19 rfl ?_
  refine X_iconst dX10_fail_20 (by decide) ?_
  refine X_putfield (ci := 10) (k := 8) (z := 1) dX10_fail_21 rfl (by decide) kf_RX10_43 (Or.inl rfl) (Or.inl rfl) rfl (fun hv => hv) h.1 ?_
  exact X_ret (z := 0) dX10_fail_24 rfl (fun _ => trivial) h.2.2.2.2.2.2
theorem qX10_fail {l : Launch} {G : GT} {Q : Int → Sh → Mem → Prop} {d : Nat} {S : Sh} {V : Mem} {mc ms : Nat} {x0 x1 x2 : Int} (h : 0 ≤ x0 → inI x1 → inI x2 → XJ l G bX10_fail Q d 0 [vr x0, vi x1, vi x2] [] S V mc ms) : Ct l G bX10_fail Q d mc ms [vr x0, vi x1, vi x2] S V := Ct.of okX10_fail.1 trivial (Nat.le_of_ble_eq_true rfl) (fun hv => h (hv _ (List.mem_of_getElem? (i := 0) rfl)) (hv _ (List.mem_of_getElem? (i := 1) rfl)) (hv _ (List.mem_of_getElem? (i := 2) rfl)))
set_option maxRecDepth 10000 in
theorem vX10_failAround_0 {l : Launch} {G : GT} {Q : Int → Sh → Mem → Prop} {d : Nat} {S : Sh} {V : Mem} {mc ms : Nat} {x0 x1 : Int} (h : S.1 x0 = 11 ∧ S.1 (V x0 6) = 20 ∧ ((S.2.1 (V x0 6)) ≤ (V x0 8) → Q 0 S V) ∧ (¬ ((S.2.1 (V x0 6)) ≤ (V x0 8)) → 0 ≤ (V x0 8) ∧ (V x0 8) < S.2.1 (V x0 6) ∧ S.1 (V x0 7) = 20 ∧ (V x0 8) < S.2.1 (V x0 7) ∧ -2147483648 ≤ (V x0 8) + 1 ∧ (V x0 8) + 1 ≤ 2147483647 ∧ Q 0 S (up (up (up V (V x0 6) (V x0 8) 1) (V x0 7) (V x0 8) x1) x0 8 ((V x0 8) + 1)))) : XJ l G bX10_failAround Q d 0 [vr x0, vi x1] [] S V mc ms := by
  refine X_aload_n dX10_failAround_0 rfl ?_
  refine X_getfield (ci := 10) (k := 8) (v := vi (V x0 8)) dX10_failAround_1 rfl (by decide) kf_RX10_43 rfl h.1 ?_
  refine X_aload_n dX10_failAround_4 rfl ?_
  refine X_getfield (ci := 10) (k := 6) (v := vr (V x0 6)) dX10_failAround_5 rfl (by decide) kf_RX10_18 rfl h.1 ?_
  refine X_alen (t := 20) (by decide) dX10_failAround_8 h.2.1 ?_
  refine X_icmp_ge dX10_failAround_9 (tgt := 42) rfl (fun c1 => ?_) (fun c1 => ?_)
  · exact X_ret (z := 0) dX10_failAround_42 rfl (fun _ => trivial) (h.2.2.1 c1)
  · refine X_aload_n dX10_failAround_12 rfl ?_
    refine X_getfield (ci := 10) (k := 6) (v := vr (V x0 6)) dX10_failAround_13 rfl (by decide) kf_RX10_18 rfl h.1 ?_
    refine X_aload_n dX10_failAround_16 rfl ?_
    refine X_getfield (ci := 10) (k := 8) (v := vi (V x0 8)) dX10_failAround_17 rfl (by decide) kf_RX10_43 rfl h.1 ?_
    refine X_iconst dX10_failAround_20 (by decide) ?_
    refine X_iastore dX10_failAround_21 h.2.1 (h.2.2.2 c1).1 (h.2.2.2 c1).2.1 ?_
    refine X_aload_n dX10_failAround_22 rfl ?_
    refine X_getfield (ci := 10) (k := 7) (v := vr (V x0 7)) dX10_failAround_23 rfl (by decide) kf_RX10_21 (congrArg vr (up_ne (Or.inl (tag_ne h.1 h.2.1 (by decide))))) h.1 ?_
    refine X_aload_n dX10_failAround_26 rfl ?_
    refine X_getfield (ci := 10) (k := 8) (v := vi (V x0 8)) dX10_failAround_27 rfl (by decide) kf_RX10_43 (congrArg vi (up_ne (Or.inl (tag_ne h.1 h.2.1 (by decide))))) h.1 ?_
    refine X_iload_n dX10_failAround_30 rfl ?_
    refine X_iastore dX10_failAround_31 (h.2.2.2 c1).2.2.1 (h.2.2.2 c1).1 (h.2.2.2 c1).2.2.2.1 ?_
    refine X_aload_n dX10_failAround_32 rfl ?_
    refine X_dup dX10_failAround_33 (rv_cat _) ?_
    refine X_getfield (ci := 10) (k := 8) (v := vi (V x0 8)) dX10_failAround_34 rfl (by decide) kf_RX10_43 (congrArg vi ((up_ne (Or.inl (tag_ne h.1 (h.2.2.2 c1).2.2.1 (by decide)))).trans (up_ne (Or.inl (tag_ne h.1 h.2.1 (by decide)))))) h.1 ?_
    refine X_iconst dX10_failAround_37 (by decide) ?_
    refine X_iaddN dX10_failAround_38 (h.2.2.2 c1).2.2.2.2.1 (h.2.2.2 c1).2.2.2.2.2.1 ?_
    refine X_putfield (ci := 10) (k := 8) (z := ((V x0 8) + 1)) dX10_failAround_39 rfl (by decide) kf_RX10_43 (Or.inl rfl) (Or.inl rfl) rfl (fun hv => hv) h.1 ?_
    exact X_ret (z := 0) dX10_failAround_42 rfl (fun _ => trivial) (h.2.2.2 c1).2.2.2.2.2.2
theorem qX10_failAround {l : Launch} {G : GT} {Q : Int → Sh → Mem → Prop} {d : Nat} {S : Sh} {V : Mem} {mc ms : Nat} {x0 x1 : Int} (h : 0 ≤ x0 → inI x1 → XJ l G bX10_failAround Q d 0 [vr x0, vi x1] [] S V mc ms) : Ct l G bX10_failAround Q d mc ms [vr x0, vi x1] S V := Ct.of okX10_failAround.1 trivial (Nat.le_of_ble_eq_true rfl) (fun hv => h (hv _ (List.mem_of_getElem? (i := 0) rfl)) (hv _ (List.mem_of_getElem? (i := 1) rfl)))
set_option maxRecDepth 10000 in
theorem vX10_startItem_0 {l : Launch} {G : GT} {Q : Int → Sh → Mem → Prop} {d : Nat} {S : Sh} {V : Mem} {mc ms : Nat} {x0 x1 : Int} (h : S.1 x0 = 11 ∧ ((V x0 5) < 12 → S.1 (V x0 4) = 20 ∧ 0 ≤ (V x0 5) ∧ (V x0 5) < S.2.1 (V x0 4) ∧ -2147483648 ≤ (V x0 5) + 1 ∧ (V x0 5) + 1 ≤ 2147483647 ∧ S.1 (V x0 0) = 1 ∧ CT l G bX0_setState d mc ms [vr (V x0 0), vi x1, vi 3] S (up (up V (V x0 4) (V x0 5) x1) x0 5 ((V x0 5) + 1)) (fun z2 S2 V2 mc2 ms2 => S2.1 x0 = 11 ∧ S2.1 (V2 x0 0) = 1 ∧ CT l G bX0_noteStart d mc2 ms2 [vr (V2 x0 0), vi x1] S2 V2 (fun z4 S4 V4 mc4 ms4 => S4.1 x0 = 11 ∧ CT l G bX0_enumOfItem d mc4 ms4 [vi x1] S4 V4 (fun z6 S6 V6 mc6 ms6 => S6.1 (V4 x0 0) = 1 ∧ CT l G bX0_enumAt d mc6 ms6 [vr (V4 x0 0), vi z6] S6 V6 (fun z8 S8 V8 mc8 ms8 => (z8 = 0 → (z8 = 0 → S8.1 x0 = 11 ∧ -2147483648 ≤ (V8 x0 5) - 1 ∧ (V8 x0 5) - 1 ≤ 2147483647 ∧ ((V8 x0 1) = 0 → S8.1 (V8 x0 0) = 1 ∧ CT l G bX0_setState d mc8 ms8 [vr (V8 x0 0), vi x1, vi 1] S8 (up V8 x0 5 ((V8 x0 5) - 1)) (fun z13 S13 V13 mc13 ms13 => S13.1 x0 = 11 ∧ ((V13 x0 1) = 0 → Q 0 S13 V13) ∧ (¬ ((V13 x0 1) = 0) → CT l G bX10_failAround d mc13 ms13 [vr x0, vi x1] S13 V13 (fun z16 S16 V16 mc16 ms16 => Q 0 S16 V16)))) ∧ (¬ ((V8 x0 1) = 0) → S8.1 (V8 x0 0) = 1 ∧ CT l G bX0_setState d mc8 ms8 [vr (V8 x0 0), vi x1, vi 2] S8 (up V8 x0 5 ((V8 x0 5) - 1)) (fun z18 S18 V18 mc18 ms18 => S18.1 x0 = 11 ∧ ((V18 x0 1) = 0 → Q 0 S18 V18) ∧ (¬ ((V18 x0 1) = 0) → CT l G bX10_failAround d mc18 ms18 [vr x0, vi x1] S18 V18 (fun z21 S21 V21 mc21 ms21 => Q 0 S21 V21))))) ∧ (¬ (z8 = 0) → S8.1 x0 = 11 ∧ CT l G bX10_makeEnum d mc8 ms8 [vr x0, vr z8] S8 V8 (fun z23 S23 V23 mc23 ms23 => S23.1 x0 = 11 ∧ -2147483648 ≤ (V23 x0 5) - 1 ∧ (V23 x0 5) - 1 ≤ 2147483647 ∧ ((V23 x0 1) = 0 → S23.1 (V23 x0 0) = 1 ∧ CT l G bX0_setState d mc23 ms23 [vr (V23 x0 0), vi x1, vi 1] S23 (up V23 x0 5 ((V23 x0 5) - 1)) (fun z26 S26 V26 mc26 ms26 => S26.1 x0 = 11 ∧ ((V26 x0 1) = 0 → Q 0 S26 V26) ∧ (¬ ((V26 x0 1) = 0) → CT l G bX10_failAround d mc26 ms26 [vr x0, vi x1] S26 V26 (fun z29 S29 V29 mc29 ms29 => Q 0 S29 V29)))) ∧ (¬ ((V23 x0 1) = 0) → S23.1 (V23 x0 0) = 1 ∧ CT l G bX0_setState d mc23 ms23 [vr (V23 x0 0), vi x1, vi 2] S23 (up V23 x0 5 ((V23 x0 5) - 1)) (fun z31 S31 V31 mc31 ms31 => S31.1 x0 = 11 ∧ ((V31 x0 1) = 0 → Q 0 S31 V31) ∧ (¬ ((V31 x0 1) = 0) → CT l G bX10_failAround d mc31 ms31 [vr x0, vi x1] S31 V31 (fun z34 S34 V34 mc34 ms34 => Q 0 S34 V34))))))) ∧ (¬ (z8 = 0) → CT l G bX0_isHolder d mc8 ms8 [vi x1] S8 V8 (fun z36 S36 V36 mc36 ms36 => (z36 = 0 → (z8 = 0 → S36.1 x0 = 11 ∧ -2147483648 ≤ (V36 x0 5) - 1 ∧ (V36 x0 5) - 1 ≤ 2147483647 ∧ ((V36 x0 1) = 0 → S36.1 (V36 x0 0) = 1 ∧ CT l G bX0_setState d mc36 ms36 [vr (V36 x0 0), vi x1, vi 1] S36 (up V36 x0 5 ((V36 x0 5) - 1)) (fun z41 S41 V41 mc41 ms41 => S41.1 x0 = 11 ∧ ((V41 x0 1) = 0 → Q 0 S41 V41) ∧ (¬ ((V41 x0 1) = 0) → CT l G bX10_failAround d mc41 ms41 [vr x0, vi x1] S41 V41 (fun z44 S44 V44 mc44 ms44 => Q 0 S44 V44)))) ∧ (¬ ((V36 x0 1) = 0) → S36.1 (V36 x0 0) = 1 ∧ CT l G bX0_setState d mc36 ms36 [vr (V36 x0 0), vi x1, vi 2] S36 (up V36 x0 5 ((V36 x0 5) - 1)) (fun z46 S46 V46 mc46 ms46 => S46.1 x0 = 11 ∧ ((V46 x0 1) = 0 → Q 0 S46 V46) ∧ (¬ ((V46 x0 1) = 0) → CT l G bX10_failAround d mc46 ms46 [vr x0, vi x1] S46 V46 (fun z49 S49 V49 mc49 ms49 => Q 0 S49 V49))))) ∧ (¬ (z8 = 0) → S36.1 x0 = 11 ∧ CT l G bX10_makeEnum d mc36 ms36 [vr x0, vr z8] S36 V36 (fun z51 S51 V51 mc51 ms51 => S51.1 x0 = 11 ∧ -2147483648 ≤ (V51 x0 5) - 1 ∧ (V51 x0 5) - 1 ≤ 2147483647 ∧ ((V51 x0 1) = 0 → S51.1 (V51 x0 0) = 1 ∧ CT l G bX0_setState d mc51 ms51 [vr (V51 x0 0), vi x1, vi 1] S51 (up V51 x0 5 ((V51 x0 5) - 1)) (fun z54 S54 V54 mc54 ms54 => S54.1 x0 = 11 ∧ ((V54 x0 1) = 0 → Q 0 S54 V54) ∧ (¬ ((V54 x0 1) = 0) → CT l G bX10_failAround d mc54 ms54 [vr x0, vi x1] S54 V54 (fun z57 S57 V57 mc57 ms57 => Q 0 S57 V57)))) ∧ (¬ ((V51 x0 1) = 0) → S51.1 (V51 x0 0) = 1 ∧ CT l G bX0_setState d mc51 ms51 [vr (V51 x0 0), vi x1, vi 2] S51 (up V51 x0 5 ((V51 x0 5) - 1)) (fun z59 S59 V59 mc59 ms59 => S59.1 x0 = 11 ∧ ((V59 x0 1) = 0 → Q 0 S59 V59) ∧ (¬ ((V59 x0 1) = 0) → CT l G bX10_failAround d mc59 ms59 [vr x0, vi x1] S59 V59 (fun z62 S62 V62 mc62 ms62 => Q 0 S62 V62))))))) ∧ (¬ (z36 = 0) → CT l G bX0_holderOfItem d mc36 ms36 [vi x1] S36 V36 (fun z64 S64 V64 mc64 ms64 => S64.1 x0 = 11 ∧ CT l G bX10_fillHolder d mc64 ms64 [vr x0, vr z8, vi z64] S64 V64 (fun z66 S66 V66 mc66 ms66 => S66.1 x0 = 11 ∧ -2147483648 ≤ (V66 x0 5) - 1 ∧ (V66 x0 5) - 1 ≤ 2147483647 ∧ ((V66 x0 1) = 0 → S66.1 (V66 x0 0) = 1 ∧ CT l G bX0_setState d mc66 ms66 [vr (V66 x0 0), vi x1, vi 1] S66 (up V66 x0 5 ((V66 x0 5) - 1)) (fun z69 S69 V69 mc69 ms69 => S69.1 x0 = 11 ∧ ((V69 x0 1) = 0 → Q 0 S69 V69) ∧ (¬ ((V69 x0 1) = 0) → CT l G bX10_failAround d mc69 ms69 [vr x0, vi x1] S69 V69 (fun z72 S72 V72 mc72 ms72 => Q 0 S72 V72)))) ∧ (¬ ((V66 x0 1) = 0) → S66.1 (V66 x0 0) = 1 ∧ CT l G bX0_setState d mc66 ms66 [vr (V66 x0 0), vi x1, vi 2] S66 (up V66 x0 5 ((V66 x0 5) - 1)) (fun z74 S74 V74 mc74 ms74 => S74.1 x0 = 11 ∧ ((V74 x0 1) = 0 → Q 0 S74 V74) ∧ (¬ ((V74 x0 1) = 0) → CT l G bX10_failAround d mc74 ms74 [vr x0, vi x1] S74 V74 (fun z77 S77 V77 mc77 ms77 => Q 0 S77 V77)))))))))))))) ∧ (¬ ((V x0 5) < 12) → CT l G bX10_fail d mc ms [vr x0, vi 6, vi (-1)] S V (fun z79 S79 V79 mc79 ms79 => Q 0 S79 V79))) : XJ l G bX10_startItem Q d 0 [vr x0, vi x1, vu] [] S V mc ms := by
  refine X_aload_n dX10_startItem_0 rfl ?_
  refine X_getfield (ci := 10) (k := 5) (v := vi (V x0 5)) dX10_startItem_1 rfl (by decide) kf_RX10_36 rfl h.1 ?_
  refine X_bipush dX10_startItem_4 (by decide) (by decide) ?_
  refine X_icmp_lt dX10_startItem_6 (tgt := 17) rfl (fun c1 => ?_) (fun c1 => ?_)
  · refine X_aload_n dX10_startItem_17 rfl ?_
    refine X_getfield (ci := 10) (k := 4) (v := vr (V x0 4)) dX10_startItem_18 rfl (by decide) kf_RX10_15 rfl h.1 ?_
    refine X_aload_n dX10_startItem_21 rfl ?_
    refine X_getfield (ci := 10) (k := 5) (v := vi (V x0 5)) dX10_startItem_22 rfl (by decide) kf_RX10_36 rfl h.1 ?_
    refine X_iload_n dX10_startItem_25 rfl ?_
    refine X_iastore dX10_startItem_26 (h.2.1 c1).1 (h.2.1 c1).2.1 (h.2.1 c1).2.2.1 ?_
    refine X_aload_n dX10_startItem_27 rfl ?_
    refine X_dup dX10_startItem_28 (rv_cat _) ?_
    refine X_getfield (ci := 10) (k := 5) (v := vi (V x0 5)) dX10_startItem_29 rfl (by decide) kf_RX10_36 (congrArg vi (up_ne (Or.inl (tag_ne h.1 (h.2.1 c1).1 (by decide))))) h.1 ?_
    refine X_iconst dX10_startItem_32 (by decide) ?_
    refine X_iaddN dX10_startItem_33 (h.2.1 c1).2.2.2.1 (h.2.1 c1).2.2.2.2.1 ?_
    refine X_putfield (ci := 10) (k := 5) (z := ((V x0 5) + 1)) dX10_startItem_34 rfl (by decide) kf_RX10_36 (Or.inl rfl) (Or.inl rfl) rfl (fun hv => hv) h.1 ?_
    refine X_aload_n dX10_startItem_37 rfl ?_
    refine X_getfield (ci := 10) (k := 0) (v := vr (V x0 0)) dX10_startItem_38 rfl (by decide) kf_RX10_24 (congrArg vr ((up_ne (Or.inr (by decide))).trans (up_ne (Or.inl (tag_ne h.1 (h.2.1 c1).1 (by decide)))))) h.1 ?_
    refine X_iload_n dX10_startItem_41 rfl ?_
    refine X_iconst dX10_startItem_42 (by decide) ?_
    refine X_invV (ci := 0) (as := [vi x1, vi 3]) (st := []) okX0_setState dX10_startItem_43 km_RX10_105 rfl rfl (Nat.le_of_ble_eq_true rfl) rfl rfl (h.2.1 c1).2.2.2.2.2.1 (CT.imp (h.2.1 c1).2.2.2.2.2.2 (fun z2 S2 V2 mc2 ms2 hc3 => ?_))
    refine X_aload_n dX10_startItem_46 rfl ?_
    refine X_getfield (ci := 10) (k := 0) (v := vr (V2 x0 0)) dX10_startItem_47 rfl (by decide) kf_RX10_24 rfl hc3.1 ?_
    refine X_iload_n dX10_startItem_50 rfl ?_
    refine X_invV (ci := 0) (as := [vi x1]) (st := []) okX0_noteStart dX10_startItem_51 km_RX10_108 rfl rfl (Nat.le_of_ble_eq_true rfl) rfl rfl hc3.2.1 (CT.imp hc3.2.2 (fun z4 S4 V4 mc4 ms4 hc5 => ?_))
    refine X_aload_n dX10_startItem_54 rfl ?_
    refine X_getfield (ci := 10) (k := 0) (v := vr (V4 x0 0)) dX10_startItem_55 rfl (by decide) kf_RX10_24 rfl hc5.1 ?_
    refine X_iload_n dX10_startItem_58 rfl ?_
    refine X_invS (as := [vi x1]) (st := [vr (V4 x0 0)]) okX0_enumOfItem dX10_startItem_59 km_RX10_111 rfl rfl (Nat.le_of_ble_eq_true rfl) (CT.imp hc5.2 (fun z6 S6 V6 mc6 ms6 hc7 => ?_))
    refine X_invV (ci := 0) (as := [vi z6]) (st := []) okX0_enumAt dX10_startItem_62 km_RX10_114 rfl rfl (Nat.le_of_ble_eq_true rfl) rfl rfl hc7.1 (CT.imp hc7.2 (fun z8 S8 V8 mc8 ms8 hc9 => ?_))
    refine X_astore_n dX10_startItem_65 (by decide) rfl ?_
    refine X_aload_n dX10_startItem_66 rfl ?_
    refine X_ifnull dX10_startItem_67 (tgt := 89) rfl (fun c10 => ?_) (fun c10 => ?_)
    · refine X_aload_n dX10_startItem_89 rfl ?_
      refine X_ifnull dX10_startItem_90 (tgt := 98) rfl (fun c11 => ?_) (fun c11 => ?_)
      · refine X_aload_n dX10_startItem_98 rfl ?_
        refine X_dup dX10_startItem_99 (rv_cat _) ?_
        refine X_getfield (ci := 10) (k := 5) (v := vi (V8 x0 5)) dX10_startItem_100 rfl (by decide) kf_RX10_36 rfl ((hc9.1 c10).1 c11).1 ?_
        refine X_iconst dX10_startItem_103 (by decide) ?_
        refine X_isubN dX10_startItem_104 ((hc9.1 c10).1 c11).2.1 ((hc9.1 c10).1 c11).2.2.1 ?_
        refine X_putfield (ci := 10) (k := 5) (z := ((V8 x0 5) - 1)) dX10_startItem_105 rfl (by decide) kf_RX10_36 (Or.inl rfl) (Or.inl rfl) rfl (fun hv => hv) ((hc9.1 c10).1 c11).1 ?_
        refine X_aload_n dX10_startItem_108 rfl ?_
        refine X_getfield (ci := 10) (k := 0) (v := vr (V8 x0 0)) dX10_startItem_109 rfl (by decide) kf_RX10_24 (congrArg vr (up_ne (Or.inr (by decide)))) ((hc9.1 c10).1 c11).1 ?_
        refine X_iload_n dX10_startItem_112 rfl ?_
        refine X_aload_n dX10_startItem_113 rfl ?_
        refine X_getfield (ci := 10) (k := 1) (v := vi (V8 x0 1)) dX10_startItem_114 rfl (by decide) kf_RX10_28 (congrArg vi (up_ne (Or.inr (by decide)))) ((hc9.1 c10).1 c11).1 ?_
        refine X_if_eq dX10_startItem_117 (tgt := 124) rfl (fun c12 => ?_) (fun c12 => ?_)
        · refine X_iconst dX10_startItem_124 (by decide) ?_
          refine X_invV (ci := 0) (as := [vi x1, vi 1]) (st := []) okX0_setState dX10_startItem_125 km_RX10_105 rfl rfl (Nat.le_of_ble_eq_true rfl) rfl rfl (((hc9.1 c10).1 c11).2.2.2.1 c12).1 (CT.imp (((hc9.1 c10).1 c11).2.2.2.1 c12).2 (fun z13 S13 V13 mc13 ms13 hc14 => ?_))
          refine X_aload_n dX10_startItem_128 rfl ?_
          refine X_getfield (ci := 10) (k := 1) (v := vi (V13 x0 1)) dX10_startItem_129 rfl (by decide) kf_RX10_28 rfl hc14.1 ?_
          refine X_if_eq dX10_startItem_132 (tgt := 140) rfl (fun c15 => ?_) (fun c15 => ?_)
          · exact X_ret (z := 0) dX10_startItem_140 rfl (fun _ => trivial) (hc14.2.1 c15)
          · refine X_aload_n dX10_startItem_135 rfl ?_
            refine X_iload_n dX10_startItem_136 rfl ?_
            refine X_invV (ci := 10) (as := [vi x1]) (st := []) okX10_failAround dX10_startItem_137 km_RX10_133 rfl rfl (Nat.le_of_ble_eq_true rfl) rfl rfl hc14.1 (CT.imp (hc14.2.2 c15) (fun z16 S16 V16 mc16 ms16 hc17 => ?_))
            exact X_ret (z := 0) dX10_startItem_140 rfl (fun _ => trivial) hc17
        · refine X_iconst dX10_startItem_120 (by decide) ?_
          refine X_goto dX10_startItem_121 (tgt := 125) rfl ?_
          refine X_invV (ci := 0) (as := [vi x1, vi 2]) (st := []) okX0_setState dX10_startItem_125 km_RX10_105 rfl rfl (Nat.le_of_ble_eq_true rfl) rfl rfl (((hc9.1 c10).1 c11).2.2.2.2 c12).1 (CT.imp (((hc9.1 c10).1 c11).2.2.2.2 c12).2 (fun z18 S18 V18 mc18 ms18 hc19 => ?_))
          refine X_aload_n dX10_startItem_128 rfl ?_
          refine X_getfield (ci := 10) (k := 1) (v := vi (V18 x0 1)) dX10_startItem_129 rfl (by decide) kf_RX10_28 rfl hc19.1 ?_
          refine X_if_eq dX10_startItem_132 (tgt := 140) rfl (fun c20 => ?_) (fun c20 => ?_)
          · exact X_ret (z := 0) dX10_startItem_140 rfl (fun _ => trivial) (hc19.2.1 c20)
          · refine X_aload_n dX10_startItem_135 rfl ?_
            refine X_iload_n dX10_startItem_136 rfl ?_
            refine X_invV (ci := 10) (as := [vi x1]) (st := []) okX10_failAround dX10_startItem_137 km_RX10_133 rfl rfl (Nat.le_of_ble_eq_true rfl) rfl rfl hc19.1 (CT.imp (hc19.2.2 c20) (fun z21 S21 V21 mc21 ms21 hc22 => ?_))
            exact X_ret (z := 0) dX10_startItem_140 rfl (fun _ => trivial) hc22
      · refine X_aload_n dX10_startItem_93 rfl ?_
        refine X_aload_n dX10_startItem_94 rfl ?_
        refine X_invV (ci := 10) (as := [vr z8]) (st := []) okX10_makeEnum dX10_startItem_95 km_RX10_129 rfl rfl (Nat.le_of_ble_eq_true rfl) rfl rfl ((hc9.1 c10).2 c11).1 (CT.imp ((hc9.1 c10).2 c11).2 (fun z23 S23 V23 mc23 ms23 hc24 => ?_))
        refine X_aload_n dX10_startItem_98 rfl ?_
        refine X_dup dX10_startItem_99 (rv_cat _) ?_
        refine X_getfield (ci := 10) (k := 5) (v := vi (V23 x0 5)) dX10_startItem_100 rfl (by decide) kf_RX10_36 rfl hc24.1 ?_
        refine X_iconst dX10_startItem_103 (by decide) ?_
        refine X_isubN dX10_startItem_104 hc24.2.1 hc24.2.2.1 ?_
        refine X_putfield (ci := 10) (k := 5) (z := ((V23 x0 5) - 1)) dX10_startItem_105 rfl (by decide) kf_RX10_36 (Or.inl rfl) (Or.inl rfl) rfl (fun hv => hv) hc24.1 ?_
        refine X_aload_n dX10_startItem_108 rfl ?_
        refine X_getfield (ci := 10) (k := 0) (v := vr (V23 x0 0)) dX10_startItem_109 rfl (by decide) kf_RX10_24 (congrArg vr (up_ne (Or.inr (by decide)))) hc24.1 ?_
        refine X_iload_n dX10_startItem_112 rfl ?_
        refine X_aload_n dX10_startItem_113 rfl ?_
        refine X_getfield (ci := 10) (k := 1) (v := vi (V23 x0 1)) dX10_startItem_114 rfl (by decide) kf_RX10_28 (congrArg vi (up_ne (Or.inr (by decide)))) hc24.1 ?_
        refine X_if_eq dX10_startItem_117 (tgt := 124) rfl (fun c25 => ?_) (fun c25 => ?_)
        · refine X_iconst dX10_startItem_124 (by decide) ?_
          refine X_invV (ci := 0) (as := [vi x1, vi 1]) (st := []) okX0_setState dX10_startItem_125 km_RX10_105 rfl rfl (Nat.le_of_ble_eq_true rfl) rfl rfl (hc24.2.2.2.1 c25).1 (CT.imp (hc24.2.2.2.1 c25).2 (fun z26 S26 V26 mc26 ms26 hc27 => ?_))
          refine X_aload_n dX10_startItem_128 rfl ?_
          refine X_getfield (ci := 10) (k := 1) (v := vi (V26 x0 1)) dX10_startItem_129 rfl (by decide) kf_RX10_28 rfl hc27.1 ?_
          refine X_if_eq dX10_startItem_132 (tgt := 140) rfl (fun c28 => ?_) (fun c28 => ?_)
          · exact X_ret (z := 0) dX10_startItem_140 rfl (fun _ => trivial) (hc27.2.1 c28)
          · refine X_aload_n dX10_startItem_135 rfl ?_
            refine X_iload_n dX10_startItem_136 rfl ?_
            refine X_invV (ci := 10) (as := [vi x1]) (st := []) okX10_failAround dX10_startItem_137 km_RX10_133 rfl rfl (Nat.le_of_ble_eq_true rfl) rfl rfl hc27.1 (CT.imp (hc27.2.2 c28) (fun z29 S29 V29 mc29 ms29 hc30 => ?_))
            exact X_ret (z := 0) dX10_startItem_140 rfl (fun _ => trivial) hc30
        · refine X_iconst dX10_startItem_120 (by decide) ?_
          refine X_goto dX10_startItem_121 (tgt := 125) rfl ?_
          refine X_invV (ci := 0) (as := [vi x1, vi 2]) (st := []) okX0_setState dX10_startItem_125 km_RX10_105 rfl rfl (Nat.le_of_ble_eq_true rfl) rfl rfl (hc24.2.2.2.2 c25).1 (CT.imp (hc24.2.2.2.2 c25).2 (fun z31 S31 V31 mc31 ms31 hc32 => ?_))
          refine X_aload_n dX10_startItem_128 rfl ?_
          refine X_getfield (ci := 10) (k := 1) (v := vi (V31 x0 1)) dX10_startItem_129 rfl (by decide) kf_RX10_28 rfl hc32.1 ?_
          refine X_if_eq dX10_startItem_132 (tgt := 140) rfl (fun c33 => ?_) (fun c33 => ?_)
          · exact X_ret (z := 0) dX10_startItem_140 rfl (fun _ => trivial) (hc32.2.1 c33)
          · refine X_aload_n dX10_startItem_135 rfl ?_
            refine X_iload_n dX10_startItem_136 rfl ?_
            refine X_invV (ci := 10) (as := [vi x1]) (st := []) okX10_failAround dX10_startItem_137 km_RX10_133 rfl rfl (Nat.le_of_ble_eq_true rfl) rfl rfl hc32.1 (CT.imp (hc32.2.2 c33) (fun z34 S34 V34 mc34 ms34 hc35 => ?_))
            exact X_ret (z := 0) dX10_startItem_140 rfl (fun _ => trivial) hc35
    · refine X_iload_n dX10_startItem_70 rfl ?_
      refine X_invS (as := [vi x1]) (st := []) okX0_isHolder dX10_startItem_71 km_RX10_118 rfl rfl (Nat.le_of_ble_eq_true rfl) (CT.imp (hc9.2 c10) (fun z36 S36 V36 mc36 ms36 hc37 => ?_))
      refine X_if_eq dX10_startItem_74 (tgt := 89) rfl (fun c38 => ?_) (fun c38 => ?_)
      · refine X_aload_n dX10_startItem_89 rfl ?_
        refine X_ifnull dX10_startItem_90 (tgt := 98) rfl (fun c39 => ?_) (fun c39 => ?_)
        · refine X_aload_n dX10_startItem_98 rfl ?_
          refine X_dup dX10_startItem_99 (rv_cat _) ?_
          refine X_getfield (ci := 10) (k := 5) (v := vi (V36 x0 5)) dX10_startItem_100 rfl (by decide) kf_RX10_36 rfl ((hc37.1 c38).1 c39).1 ?_
          refine X_iconst dX10_startItem_103 (by decide) ?_
          refine X_isubN dX10_startItem_104 ((hc37.1 c38).1 c39).2.1 ((hc37.1 c38).1 c39).2.2.1 ?_
          refine X_putfield (ci := 10) (k := 5) (z := ((V36 x0 5) - 1)) dX10_startItem_105 rfl (by decide) kf_RX10_36 (Or.inl rfl) (Or.inl rfl) rfl (fun hv => hv) ((hc37.1 c38).1 c39).1 ?_
          refine X_aload_n dX10_startItem_108 rfl ?_
          refine X_getfield (ci := 10) (k := 0) (v := vr (V36 x0 0)) dX10_startItem_109 rfl (by decide) kf_RX10_24 (congrArg vr (up_ne (Or.inr (by decide)))) ((hc37.1 c38).1 c39).1 ?_
          refine X_iload_n dX10_startItem_112 rfl ?_
          refine X_aload_n dX10_startItem_113 rfl ?_
          refine X_getfield (ci := 10) (k := 1) (v := vi (V36 x0 1)) dX10_startItem_114 rfl (by decide) kf_RX10_28 (congrArg vi (up_ne (Or.inr (by decide)))) ((hc37.1 c38).1 c39).1 ?_
          refine X_if_eq dX10_startItem_117 (tgt := 124) rfl (fun c40 => ?_) (fun c40 => ?_)
          · refine X_iconst dX10_startItem_124 (by decide) ?_
            refine X_invV (ci := 0) (as := [vi x1, vi 1]) (st := []) okX0_setState dX10_startItem_125 km_RX10_105 rfl rfl (Nat.le_of_ble_eq_true rfl) rfl rfl (((hc37.1 c38).1 c39).2.2.2.1 c40).1 (CT.imp (((hc37.1 c38).1 c39).2.2.2.1 c40).2 (fun z41 S41 V41 mc41 ms41 hc42 => ?_))
            refine X_aload_n dX10_startItem_128 rfl ?_
            refine X_getfield (ci := 10) (k := 1) (v := vi (V41 x0 1)) dX10_startItem_129 rfl (by decide) kf_RX10_28 rfl hc42.1 ?_
            refine X_if_eq dX10_startItem_132 (tgt := 140) rfl (fun c43 => ?_) (fun c43 => ?_)
            · exact X_ret (z := 0) dX10_startItem_140 rfl (fun _ => trivial) (hc42.2.1 c43)
            · refine X_aload_n dX10_startItem_135 rfl ?_
              refine X_iload_n dX10_startItem_136 rfl ?_
              refine X_invV (ci := 10) (as := [vi x1]) (st := []) okX10_failAround dX10_startItem_137 km_RX10_133 rfl rfl (Nat.le_of_ble_eq_true rfl) rfl rfl hc42.1 (CT.imp (hc42.2.2 c43) (fun z44 S44 V44 mc44 ms44 hc45 => ?_))
              exact X_ret (z := 0) dX10_startItem_140 rfl (fun _ => trivial) hc45
          · refine X_iconst dX10_startItem_120 (by decide) ?_
            refine X_goto dX10_startItem_121 (tgt := 125) rfl ?_
            refine X_invV (ci := 0) (as := [vi x1, vi 2]) (st := []) okX0_setState dX10_startItem_125 km_RX10_105 rfl rfl (Nat.le_of_ble_eq_true rfl) rfl rfl (((hc37.1 c38).1 c39).2.2.2.2 c40).1 (CT.imp (((hc37.1 c38).1 c39).2.2.2.2 c40).2 (fun z46 S46 V46 mc46 ms46 hc47 => ?_))
            refine X_aload_n dX10_startItem_128 rfl ?_
            refine X_getfield (ci := 10) (k := 1) (v := vi (V46 x0 1)) dX10_startItem_129 rfl (by decide) kf_RX10_28 rfl hc47.1 ?_
            refine X_if_eq dX10_startItem_132 (tgt := 140) rfl (fun c48 => ?_) (fun c48 => ?_)
            · exact X_ret (z := 0) dX10_startItem_140 rfl (fun _ => trivial) (hc47.2.1 c48)
            · refine X_aload_n dX10_startItem_135 rfl ?_
              refine X_iload_n dX10_startItem_136 rfl ?_
              refine X_invV (ci := 10) (as := [vi x1]) (st := []) okX10_failAround dX10_startItem_137 km_RX10_133 rfl rfl (Nat.le_of_ble_eq_true rfl) rfl rfl hc47.1 (CT.imp (hc47.2.2 c48) (fun z49 S49 V49 mc49 ms49 hc50 => ?_))
              exact X_ret (z := 0) dX10_startItem_140 rfl (fun _ => trivial) hc50
        · refine X_aload_n dX10_startItem_93 rfl ?_
          refine X_aload_n dX10_startItem_94 rfl ?_
          refine X_invV (ci := 10) (as := [vr z8]) (st := []) okX10_makeEnum dX10_startItem_95 km_RX10_129 rfl rfl (Nat.le_of_ble_eq_true rfl) rfl rfl ((hc37.1 c38).2 c39).1 (CT.imp ((hc37.1 c38).2 c39).2 (fun z51 S51 V51 mc51 ms51 hc52 => ?_))
          refine X_aload_n dX10_startItem_98 rfl ?_
          refine X_dup dX10_startItem_99 (rv_cat _) ?_
          refine X_getfield (ci := 10) (k := 5) (v := vi (V51 x0 5)) dX10_startItem_100 rfl (by decide) kf_RX10_36 rfl hc52.1 ?_
          refine X_iconst dX10_startItem_103 (by decide) ?_
          refine X_isubN dX10_startItem_104 hc52.2.1 hc52.2.2.1 ?_
          refine X_putfield (ci := 10) (k := 5) (z := ((V51 x0 5) - 1)) dX10_startItem_105 rfl (by decide) kf_RX10_36 (Or.inl rfl) (Or.inl rfl) rfl (fun hv => hv) hc52.1 ?_
          refine X_aload_n dX10_startItem_108 rfl ?_
          refine X_getfield (ci := 10) (k := 0) (v := vr (V51 x0 0)) dX10_startItem_109 rfl (by decide) kf_RX10_24 (congrArg vr (up_ne (Or.inr (by decide)))) hc52.1 ?_
          refine X_iload_n dX10_startItem_112 rfl ?_
          refine X_aload_n dX10_startItem_113 rfl ?_
          refine X_getfield (ci := 10) (k := 1) (v := vi (V51 x0 1)) dX10_startItem_114 rfl (by decide) kf_RX10_28 (congrArg vi (up_ne (Or.inr (by decide)))) hc52.1 ?_
          refine X_if_eq dX10_startItem_117 (tgt := 124) rfl (fun c53 => ?_) (fun c53 => ?_)
          · refine X_iconst dX10_startItem_124 (by decide) ?_
            refine X_invV (ci := 0) (as := [vi x1, vi 1]) (st := []) okX0_setState dX10_startItem_125 km_RX10_105 rfl rfl (Nat.le_of_ble_eq_true rfl) rfl rfl (hc52.2.2.2.1 c53).1 (CT.imp (hc52.2.2.2.1 c53).2 (fun z54 S54 V54 mc54 ms54 hc55 => ?_))
            refine X_aload_n dX10_startItem_128 rfl ?_
            refine X_getfield (ci := 10) (k := 1) (v := vi (V54 x0 1)) dX10_startItem_129 rfl (by decide) kf_RX10_28 rfl hc55.1 ?_
            refine X_if_eq dX10_startItem_132 (tgt := 140) rfl (fun c56 => ?_) (fun c56 => ?_)
            · exact X_ret (z := 0) dX10_startItem_140 rfl (fun _ => trivial) (hc55.2.1 c56)
            · refine X_aload_n dX10_startItem_135 rfl ?_
              refine X_iload_n dX10_startItem_136 rfl ?_
              refine X_invV (ci := 10) (as := [vi x1]) (st := []) okX10_failAround dX10_startItem_137 km_RX10_133 rfl rfl (Nat.le_of_ble_eq_true rfl) rfl rfl hc55.1 (CT.imp (hc55.2.2 c56) (fun z57 S57 V57 mc57 ms57 hc58 => ?_))
              exact X_ret (z := 0) dX10_startItem_140 rfl (fun _ => trivial) hc58
          · refine X_iconst dX10_startItem_120 (by decide) ?_
            refine X_goto dX10_startItem_121 (tgt := 125) rfl ?_
            refine X_invV (ci := 0) (as := [vi x1, vi 2]) (st := []) okX0_setState dX10_startItem_125 km_RX10_105 rfl rfl (Nat.le_of_ble_eq_true rfl) rfl rfl (hc52.2.2.2.2 c53).1 (CT.imp (hc52.2.2.2.2 c53).2 (fun z59 S59 V59 mc59 ms59 hc60 => ?_))
            refine X_aload_n dX10_startItem_128 rfl ?_
            refine X_getfield (ci := 10) (k := 1) (v := vi (V59 x0 1)) dX10_startItem_129 rfl (by decide) kf_RX10_28 rfl hc60.1 ?_
            refine X_if_eq dX10_startItem_132 (tgt := 140) rfl (fun c61 => ?_) (fun c61 => ?_)
            · exact X_ret (z := 0) dX10_startItem_140 rfl (fun _ => trivial) (hc60.2.1 c61)
            · refine X_aload_n dX10_startItem_135 rfl ?_
              refine X_iload_n dX10_startItem_136 rfl ?_
              refine X_invV (ci := 10) (as := [vi x1]) (st := []) okX10_failAround dX10_startItem_137 km_RX10_133 rfl rfl (Nat.le_of_ble_eq_true rfl) rfl rfl hc60.1 (CT.imp (hc60.2.2 c61) (fun z62 S62 V62 mc62 ms62 hc63 => ?_))
              exact X_ret (z := 0) dX10_startItem_140 rfl (fun _ => trivial) hc63
      · refine X_aload_n dX10_startItem_77 rfl ?_
        refine X_aload_n dX10_startItem_78 rfl ?_
        refine X_iload_n dX10_startItem_79 rfl ?_
        refine X_invS (as := [vi x1]) (st := [vr z8, vr x0]) okX0_holderOfItem dX10_startItem_80 km_RX10_122 rfl rfl (Nat.le_of_ble_eq_true rfl) (CT.imp (hc37.2 c38) (fun z64 S64 V64 mc64 ms64 hc65 => ?_))
        refine X_invV (ci := 10) (as := [vr z8, vi z64]) (st := []) okX10_fillHolder dX10_startItem_83 km_RX10_125 rfl rfl (Nat.le_of_ble_eq_true rfl) rfl rfl hc65.1 (CT.imp hc65.2 (fun z66 S66 V66 mc66 ms66 hc67 => ?_))
        refine X_goto dX10_startItem_86 (tgt := 98) rfl ?_
        refine X_aload_n dX10_startItem_98 rfl ?_
        refine X_dup dX10_startItem_99 (rv_cat _) ?_
        refine X_getfield (ci := 10) (k := 5) (v := vi (V66 x0 5)) dX10_startItem_100 rfl (by decide) kf_RX10_36 rfl hc67.1 ?_
        refine X_iconst dX10_startItem_103 (by decide) ?_
        refine X_isubN dX10_startItem_104 hc67.2.1 hc67.2.2.1 ?_
        refine X_putfield (ci := 10) (k := 5) (z := ((V66 x0 5) - 1)) dX10_startItem_105 rfl (by decide) kf_RX10_36 (Or.inl rfl) (Or.inl rfl) rfl (fun hv => hv) hc67.1 ?_
        refine X_aload_n dX10_startItem_108 rfl ?_
        refine X_getfield (ci := 10) (k := 0) (v := vr (V66 x0 0)) dX10_startItem_109 rfl (by decide) kf_RX10_24 (congrArg vr (up_ne (Or.inr (by decide)))) hc67.1 ?_
        refine X_iload_n dX10_startItem_112 rfl ?_
        refine X_aload_n dX10_startItem_113 rfl ?_
        refine X_getfield (ci := 10) (k := 1) (v := vi (V66 x0 1)) dX10_startItem_114 rfl (by decide) kf_RX10_28 (congrArg vi (up_ne (Or.inr (by decide)))) hc67.1 ?_
        refine X_if_eq dX10_startItem_117 (tgt := 124) rfl (fun c68 => ?_) (fun c68 => ?_)
        · refine X_iconst dX10_startItem_124 (by decide) ?_
          refine X_invV (ci := 0) (as := [vi x1, vi 1]) (st := []) okX0_setState dX10_startItem_125 km_RX10_105 rfl rfl (Nat.le_of_ble_eq_true rfl) rfl rfl (hc67.2.2.2.1 c68).1 (CT.imp (hc67.2.2.2.1 c68).2 (fun z69 S69 V69 mc69 ms69 hc70 => ?_))
          refine X_aload_n dX10_startItem_128 rfl ?_
          refine X_getfield (ci := 10) (k := 1) (v := vi (V69 x0 1)) dX10_startItem_129 rfl (by decide) kf_RX10_28 rfl hc70.1 ?_
          refine X_if_eq dX10_startItem_132 (tgt := 140) rfl (fun c71 => ?_) (fun c71 => ?_)
          · exact X_ret (z := 0) dX10_startItem_140 rfl (fun _ => trivial) (hc70.2.1 c71)
          · refine X_aload_n dX10_startItem_135 rfl ?_
            refine X_iload_n dX10_startItem_136 rfl ?_
            refine X_invV (ci := 10) (as := [vi x1]) (st := []) okX10_failAround dX10_startItem_137 km_RX10_133 rfl rfl (Nat.le_of_ble_eq_true rfl) rfl rfl hc70.1 (CT.imp (hc70.2.2 c71) (fun z72 S72 V72 mc72 ms72 hc73 => ?_))
            exact X_ret (z := 0) dX10_startItem_140 rfl (fun _ => trivial) hc73
        · refine X_iconst dX10_startItem_120 (by decide) ?_
          refine X_goto dX10_startItem_121 (tgt := 125) rfl ?_
          refine X_invV (ci := 0) (as := [vi x1, vi 2]) (st := []) okX0_setState dX10_startItem_125 km_RX10_105 rfl rfl (Nat.le_of_ble_eq_true rfl) rfl rfl (hc67.2.2.2.2 c68).1 (CT.imp (hc67.2.2.2.2 c68).2 (fun z74 S74 V74 mc74 ms74 hc75 => ?_))
          refine X_aload_n dX10_startItem_128 rfl ?_
          refine X_getfield (ci := 10) (k := 1) (v := vi (V74 x0 1)) dX10_startItem_129 rfl (by decide) kf_RX10_28 rfl hc75.1 ?_
          refine X_if_eq dX10_startItem_132 (tgt := 140) rfl (fun c76 => ?_) (fun c76 => ?_)
          · exact X_ret (z := 0) dX10_startItem_140 rfl (fun _ => trivial) (hc75.2.1 c76)
          · refine X_aload_n dX10_startItem_135 rfl ?_
            refine X_iload_n dX10_startItem_136 rfl ?_
            refine X_invV (ci := 10) (as := [vi x1]) (st := []) okX10_failAround dX10_startItem_137 km_RX10_133 rfl rfl (Nat.le_of_ble_eq_true rfl) rfl rfl hc75.1 (CT.imp (hc75.2.2 c76) (fun z77 S77 V77 mc77 ms77 hc78 => ?_))
            exact X_ret (z := 0) dX10_startItem_140 rfl (fun _ => trivial) hc78
  · refine X_aload_n dX10_startItem_9 rfl ?_
    refine X_bipush dX10_startItem_10 (by decide) (by decide) ?_
    refine X_iconst dX10_startItem_12 (by decide) ?_
    refine X_invV (ci := 10) (as := [vi 6, vi (-1)]) (st := []) okX10_fail dX10_startItem_13 km_RX10_52 rfl rfl (Nat.le_of_ble_eq_true rfl) rfl rfl h.1 (CT.imp (h.2.2 c1) (fun z79 S79 V79 mc79 ms79 hc80 => ?_))
    exact X_ret (z := 0) dX10_startItem_16 rfl (fun _ => trivial) hc80
theorem qX10_startItem {l : Launch} {G : GT} {Q : Int → Sh → Mem → Prop} {d : Nat} {S : Sh} {V : Mem} {mc ms : Nat} {x0 x1 : Int} (h : 0 ≤ x0 → inI x1 → XJ l G bX10_startItem Q d 0 [vr x0, vi x1, vu] [] S V mc ms) : Ct l G bX10_startItem Q d mc ms [vr x0, vi x1] S V := Ct.of okX10_startItem.1 trivial (Nat.le_of_ble_eq_true rfl) (fun hv => h (hv _ (List.mem_of_getElem? (i := 0) rfl)) (hv _ (List.mem_of_getElem? (i := 1) rfl)))
set_option maxRecDepth 10000 in
theorem vX10_fillHolder_0 {l : Launch} {G : GT} {Q : Int → Sh → Mem → Prop} {d : Nat} {S : Sh} {V : Mem} {mc ms : Nat} {x0 x1 x2 : Int} (h : (x2 < 0 → Q 0 S V) ∧ (¬ (x2 < 0) → S.1 x1 = 4 ∧ ((V x1 14) ≤ x2 → Q 0 S V) ∧ (¬ ((V x1 14) ≤ x2) → S.1 (V x1 12) = 20 ∧ 0 ≤ x2 ∧ x2 < S.2.1 (V x1 12) ∧ S.1 x0 = 11 ∧ CT l G bX10_workOut d mc ms [vr x0, vi (V (V x1 12) x2), vr x1, vi (-1), vi (-1)] S V (fun z3 S3 V3 mc3 ms3 => S3.1 (V x1 13) = 20 ∧ 0 ≤ x2 ∧ x2 < S3.2.1 (V x1 13) ∧ Q 0 S3 (up V3 (V x1 13) x2 z3))))) : XJ l G bX10_fillHolder Q d 0 [vr x0, vr x1, vi x2] [] S V mc ms := by
  refine X_iload_n dX10_fillHolder_0 rfl ?_
  refine X_if_lt dX10_fillHolder_1 (tgt := 31) rfl (fun c1 => ?_) (fun c1 => ?_)
  · exact X_ret (z := 0) dX10_fillHolder_31 rfl (fun _ => trivial) (h.1 c1)
  · refine X_iload_n dX10_fillHolder_4 rfl ?_
    refine X_aload_n dX10_fillHolder_5 rfl ?_
    refine X_getfield (ci := 3) (k := 14) (v := vi (V x1 14)) dX10_fillHolder_6 rfl (by decide) kf_RX10_136 rfl (h.2 c1).1 ?_
    refine X_icmp_ge dX10_fillHolder_9 (tgt := 31) rfl (fun c2 => ?_) (fun c2 => ?_)
    · exact X_ret (z := 0) dX10_fillHolder_31 rfl (fun _ => trivial) ((h.2 c1).2.1 c2)
    · refine X_aload_n dX10_fillHolder_12 rfl ?_
      refine X_getfield (ci := 3) (k := 13) (v := vr (V x1 13)) dX10_fillHolder_13 rfl (by decide) kf_RX10_139 rfl (h.2 c1).1 ?_
      refine X_iload_n dX10_fillHolder_16 rfl ?_
      refine X_aload_n dX10_fillHolder_17 rfl ?_
      refine X_aload_n dX10_fillHolder_18 rfl ?_
      refine X_getfield (ci := 3) (k := 12) (v := vr (V x1 12)) dX10_fillHolder_19 rfl (by decide) kf_RX10_142 rfl (h.2 c1).1 ?_
      refine X_iload_n dX10_fillHolder_22 rfl ?_
      refine X_iaload dX10_fillHolder_23 ((h.2 c1).2.2 c2).1 ((h.2 c1).2.2 c2).2.1 ((h.2 c1).2.2 c2).2.2.1 ?_
      refine X_aload_n dX10_fillHolder_24 rfl ?_
      refine X_iconst dX10_fillHolder_25 (by decide) ?_
      refine X_iconst dX10_fillHolder_26 (by decide) ?_
      refine X_invV (ci := 10) (as := [vi (V (V x1 12) x2), vr x1, vi (-1), vi (-1)]) (st := [vi x2, vr (V x1 13)]) okX10_workOut dX10_fillHolder_27 km_RX10_77 rfl rfl (Nat.le_of_ble_eq_true rfl) rfl rfl ((h.2 c1).2.2 c2).2.2.2.1 (CT.imp ((h.2 c1).2.2 c2).2.2.2.2 (fun z3 S3 V3 mc3 ms3 hc4 => ?_))
      refine X_iastore dX10_fillHolder_30 hc4.1 hc4.2.1 hc4.2.2.1 ?_
      exact X_ret (z := 0) dX10_fillHolder_31 rfl (fun _ => trivial) hc4.2.2.2
theorem qX10_fillHolder {l : Launch} {G : GT} {Q : Int → Sh → Mem → Prop} {d : Nat} {S : Sh} {V : Mem} {mc ms : Nat} {x0 x1 x2 : Int} (h : 0 ≤ x0 → 0 ≤ x1 → inI x2 → XJ l G bX10_fillHolder Q d 0 [vr x0, vr x1, vi x2] [] S V mc ms) : Ct l G bX10_fillHolder Q d mc ms [vr x0, vr x1, vi x2] S V := Ct.of okX10_fillHolder.1 trivial (Nat.le_of_ble_eq_true rfl) (fun hv => h (hv _ (List.mem_of_getElem? (i := 0) rfl)) (hv _ (List.mem_of_getElem? (i := 1) rfl)) (hv _ (List.mem_of_getElem? (i := 2) rfl)))
set_option maxRecDepth 10000 in
theorem vX10_makeEnum_0 {l : Launch} {G : GT} {Q : Int → Sh → Mem → Prop} {d : Nat} {S : Sh} {V : Mem} {mc ms : Nat} {x0 x1 : Int} (h : XJ l G bX10_makeEnum Q d 2 [vr x0, vr x1, vi 0, vu] [] S V mc ms) : XJ l G bX10_makeEnum Q d 0 [vr x0, vr x1, vu, vu] [] S V mc ms := by
  refine X_iconst dX10_makeEnum_0 (by decide) ?_
  refine X_istore_n dX10_makeEnum_1 (by decide) rfl ?_
  exact h
set_option maxRecDepth 10000 in
theorem vX10_makeEnum_2 {l : Launch} {G : GT} {Q : Int → Sh → Mem → Prop} {d : Nat} {S : Sh} {V : Mem} {mc ms : Nat} {x0 x1 x2 : Int} (h : S.1 x1 = 4 ∧ ((V x1 4) ≤ x2 → XJ l G bX10_makeEnum Q d 31 [vr x0, vr x1, vi 0, vu] [] S V mc ms) ∧ (¬ ((V x1 4) ≤ x2) → S.1 x0 = 11 ∧ ((V x0 1) ≠ 0 → XJ l G bX10_makeEnum Q d 31 [vr x0, vr x1, vi 0, vu] [] S V mc ms) ∧ (¬ ((V x0 1) ≠ 0) → CT l G bX10_makeConstant d mc ms [vr x0, vr x1, vi x2] S V (fun z3 S3 V3 mc3 ms3 => -2147483648 ≤ x2 + 1 ∧ x2 + 1 ≤ 2147483647 ∧ XJ l G bX10_makeEnum Q d 2 [vr x0, vr x1, vi (x2 + 1), vu] [] S3 V3 mc3 ms3)))) : XJ l G bX10_makeEnum Q d 2 [vr x0, vr x1, vi x2, vu] [] S V mc ms := by
  refine X_iload_n dX10_makeEnum_2 rfl ?_
  refine X_aload_n dX10_makeEnum_3 rfl ?_
  refine X_getfield (ci := 3) (k := 4) (v := vi (V x1 4)) dX10_makeEnum_4 rfl (by decide) kf_RX10_145 rfl h.1 ?_
  refine X_icmp_ge dX10_makeEnum_7 (tgt := 29) rfl (fun c1 => ?_) (fun c1 => ?_)
  · refine X_iconst dX10_makeEnum_29 (by decide) ?_
    refine X_istore_n dX10_makeEnum_30 (by decide) rfl ?_
    exact (h.2.1 c1)
  · refine X_aload_n dX10_makeEnum_10 rfl ?_
    refine X_getfield (ci := 10) (k := 1) (v := vi (V x0 1)) dX10_makeEnum_11 rfl (by decide) kf_RX10_28 rfl (h.2.2 c1).1 ?_
    refine X_if_ne dX10_makeEnum_14 (tgt := 29) rfl (fun c2 => ?_) (fun c2 => ?_)
    · refine X_iconst dX10_makeEnum_29 (by decide) ?_
      refine X_istore_n dX10_makeEnum_30 (by decide) rfl ?_
      exact ((h.2.2 c1).2.1 c2)
    · refine X_aload_n dX10_makeEnum_17 rfl ?_
      refine X_aload_n dX10_makeEnum_18 rfl ?_
      refine X_iload_n dX10_makeEnum_19 rfl ?_
      refine X_invV (ci := 10) (as := [vr x1, vi x2]) (st := []) okX10_makeConstant dX10_makeEnum_20 km_RX10_148 rfl rfl (Nat.le_of_ble_eq_true rfl) rfl rfl (h.2.2 c1).1 (CT.imp ((h.2.2 c1).2.2 c2) (fun z3 S3 V3 mc3 ms3 hc4 => ?_))
      refine X_iincN dX10_makeEnum_23 rfl (by decide) rfl (e := x2 + 1) rfl hc4.1 hc4.2.1 ?_
      refine X_goto dX10_makeEnum_26 (tgt := 2) rfl ?_
      exact hc4.2.2
set_option maxRecDepth 10000 in
theorem vX10_makeEnum_31 {l : Launch} {G : GT} {Q : Int → Sh → Mem → Prop} {d : Nat} {S : Sh} {V : Mem} {mc ms : Nat} {x0 x1 x2 : Int} (h : S.1 x1 = 4 ∧ ((V x1 8) ≤ x2 → XJ l G bX10_makeEnum Q d 65 [vr x0, vr x1, vi 0, vu] [] S V mc ms) ∧ (¬ ((V x1 8) ≤ x2) → S.1 x0 = 11 ∧ ((V x0 1) ≠ 0 → XJ l G bX10_makeEnum Q d 65 [vr x0, vr x1, vi 0, vu] [] S V mc ms) ∧ (¬ ((V x0 1) ≠ 0) → S.1 (V x1 7) = 38 ∧ 0 ≤ x2 ∧ x2 < S.2.1 (V x1 7) ∧ CT l G bX10_fillTable d mc ms [vr x0, vr x1, vr (V (V x1 7) x2)] S V (fun z3 S3 V3 mc3 ms3 => -2147483648 ≤ x2 + 1 ∧ x2 + 1 ≤ 2147483647 ∧ XJ l G bX10_makeEnum Q d 31 [vr x0, vr x1, vi (x2 + 1), vu] [] S3 V3 mc3 ms3)))) : XJ l G bX10_makeEnum Q d 31 [vr x0, vr x1, vi x2, vu] [] S V mc ms := by
  refine X_iload_n dX10_makeEnum_31 rfl ?_
  refine X_aload_n dX10_makeEnum_32 rfl ?_
  refine X_getfield (ci := 3) (k := 8) (v := vi (V x1 8)) dX10_makeEnum_33 rfl (by decide) kf_RX10_151 rfl h.1 ?_
  refine X_icmp_ge dX10_makeEnum_36 (tgt := 63) rfl (fun c1 => ?_) (fun c1 => ?_)
  · refine X_iconst dX10_makeEnum_63 (by decide) ?_
    refine X_istore_n dX10_makeEnum_64 (by decide) rfl ?_
    exact (h.2.1 c1)
  · refine X_aload_n dX10_makeEnum_39 rfl ?_
    refine X_getfield (ci := 10) (k := 1) (v := vi (V x0 1)) dX10_makeEnum_40 rfl (by decide) kf_RX10_28 rfl (h.2.2 c1).1 ?_
    refine X_if_ne dX10_makeEnum_43 (tgt := 63) rfl (fun c2 => ?_) (fun c2 => ?_)
    · refine X_iconst dX10_makeEnum_63 (by decide) ?_
      refine X_istore_n dX10_makeEnum_64 (by decide) rfl ?_
      exact ((h.2.2 c1).2.1 c2)
    · refine X_aload_n dX10_makeEnum_46 rfl ?_
      refine X_aload_n dX10_makeEnum_47 rfl ?_
      refine X_aload_n dX10_makeEnum_48 rfl ?_
      refine X_getfield (ci := 3) (k := 7) (v := vr (V x1 7)) dX10_makeEnum_49 rfl (by decide) kf_RX10_154 rfl h.1 ?_
      refine X_iload_n dX10_makeEnum_52 rfl ?_
      refine X_aaload38 dX10_makeEnum_53 ((h.2.2 c1).2.2 c2).1 ((h.2.2 c1).2.2 c2).2.1 ((h.2.2 c1).2.2 c2).2.2.1 ?_
      refine X_invV (ci := 10) (as := [vr x1, vr (V (V x1 7) x2)]) (st := []) okX10_fillTable dX10_makeEnum_54 km_RX10_158 rfl rfl (Nat.le_of_ble_eq_true rfl) rfl rfl (h.2.2 c1).1 (CT.imp ((h.2.2 c1).2.2 c2).2.2.2 (fun z3 S3 V3 mc3 ms3 hc4 => ?_))
      refine X_iincN dX10_makeEnum_57 rfl (by decide) rfl (e := x2 + 1) rfl hc4.1 hc4.2.1 ?_
      refine X_goto dX10_makeEnum_60 (tgt := 31) rfl ?_
      exact hc4.2.2
set_option maxRecDepth 10000 in
theorem vX10_makeEnum_65 {l : Launch} {G : GT} {Q : Int → Sh → Mem → Prop} {d : Nat} {S : Sh} {V : Mem} {mc ms : Nat} {x0 x1 x2 : Int} (h : S.1 x1 = 4 ∧ ((V x1 10) ≤ x2 → Q 0 S V) ∧ (¬ ((V x1 10) ≤ x2) → S.1 x0 = 11 ∧ ((V x0 1) ≠ 0 → Q 0 S V) ∧ (¬ ((V x0 1) ≠ 0) → S.1 (V x1 9) = 20 ∧ 0 ≤ x2 ∧ x2 < S.2.1 (V x1 9) ∧ CT l G bX10_workOut d mc ms [vr x0, vi (V (V x1 9) x2), vr x1, vi (-1), vi (-1)] S V (fun z3 S3 V3 mc3 ms3 => S3.1 x0 = 11 ∧ ((V3 x0 1) ≠ 0 → -2147483648 ≤ x2 + 1 ∧ x2 + 1 ≤ 2147483647 ∧ XJ l G bX10_makeEnum Q d 65 [vr x0, vr x1, vi (x2 + 1), vu] [] S3 V3 mc3 ms3) ∧ (¬ ((V3 x0 1) ≠ 0) → (z3 ≠ 0 → -2147483648 ≤ x2 + 1 ∧ x2 + 1 ≤ 2147483647 ∧ XJ l G bX10_makeEnum Q d 65 [vr x0, vr x1, vi (x2 + 1), vu] [] S3 V3 mc3 ms3) ∧ (¬ (z3 ≠ 0) → CT l G bX10_fail d mc3 ms3 [vr x0, vi 3, vi (-1)] S3 V3 (fun z7 S7 V7 mc7 ms7 => -2147483648 ≤ x2 + 1 ∧ x2 + 1 ≤ 2147483647 ∧ XJ l G bX10_makeEnum Q d 65 [vr x0, vr x1, vi (x2 + 1), vu] [] S7 V7 mc7 ms7))))))) : XJ l G bX10_makeEnum Q d 65 [vr x0, vr x1, vi x2, vu] [] S V mc ms := by
  refine X_iload_n dX10_makeEnum_65 rfl ?_
  refine X_aload_n dX10_makeEnum_66 rfl ?_
  refine X_getfield (ci := 3) (k := 10) (v := vi (V x1 10)) dX10_makeEnum_67 rfl (by decide) kf_RX10_162 rfl h.1 ?_
  refine X_icmp_ge dX10_makeEnum_70 (tgt := 117) rfl (fun c1 => ?_) (fun c1 => ?_)
  · exact X_ret (z := 0) dX10_makeEnum_117 rfl (fun _ => trivial) (h.2.1 c1)
  · refine X_aload_n dX10_makeEnum_73 rfl ?_
    refine X_getfield (ci := 10) (k := 1) (v := vi (V x0 1)) dX10_makeEnum_74 rfl (by decide) kf_RX10_28 rfl (h.2.2 c1).1 ?_
    refine X_if_ne dX10_makeEnum_77 (tgt := 117) rfl (fun c2 => ?_) (fun c2 => ?_)
    · exact X_ret (z := 0) dX10_makeEnum_117 rfl (fun _ => trivial) ((h.2.2 c1).2.1 c2)
    · refine X_aload_n dX10_makeEnum_80 rfl ?_
      refine X_aload_n dX10_makeEnum_81 rfl ?_
      refine X_getfield (ci := 3) (k := 9) (v := vr (V x1 9)) dX10_makeEnum_82 rfl (by decide) kf_RX10_165 rfl h.1 ?_
      refine X_iload_n dX10_makeEnum_85 rfl ?_
      refine X_iaload dX10_makeEnum_86 ((h.2.2 c1).2.2 c2).1 ((h.2.2 c1).2.2 c2).2.1 ((h.2.2 c1).2.2 c2).2.2.1 ?_
      refine X_aload_n dX10_makeEnum_87 rfl ?_
      refine X_iconst dX10_makeEnum_88 (by decide) ?_
      refine X_iconst dX10_makeEnum_89 (by decide) ?_
      refine X_invV (ci := 10) (as := [vi (V (V x1 9) x2), vr x1, vi (-1), vi (-1)]) (st := []) okX10_workOut dX10_makeEnum_90 km_RX10_77 rfl rfl (Nat.le_of_ble_eq_true rfl) rfl rfl (h.2.2 c1).1 (CT.imp ((h.2.2 c1).2.2 c2).2.2.2 (fun z3 S3 V3 mc3 ms3 hc4 => ?_))
      refine X_istore_n dX10_makeEnum_93 (by decide) rfl ?_
      refine X_aload_n dX10_makeEnum_94 rfl ?_
      refine X_getfield (ci := 10) (k := 1) (v := vi (V3 x0 1)) dX10_makeEnum_95 rfl (by decide) kf_RX10_28 rfl hc4.1 ?_
      refine X_if_ne dX10_makeEnum_98 (tgt := 111) rfl (fun c5 => ?_) (fun c5 => ?_)
      · refine X_iincN dX10_makeEnum_111 rfl (by decide) rfl (e := x2 + 1) rfl (hc4.2.1 c5).1 (hc4.2.1 c5).2.1 ?_
        refine X_goto dX10_makeEnum_114 (tgt := 65) rfl ?_
        exact X_weak [false, false, false, true] (hc4.2.1 c5).2.2
      · refine X_iload_n dX10_makeEnum_101 rfl ?_
        refine X_if_ne dX10_makeEnum_102 (tgt := 111) rfl (fun c6 => ?_) (fun c6 => ?_)
        · refine X_iincN dX10_makeEnum_111 rfl (by decide) rfl (e := x2 + 1) rfl ((hc4.2.2 c5).1 c6).1 ((hc4.2.2 c5).1 c6).2.1 ?_
          refine X_goto dX10_makeEnum_114 (tgt := 65) rfl ?_
          exact X_weak [false, false, false, true] ((hc4.2.2 c5).1 c6).2.2
        · refine X_aload_n dX10_makeEnum_105 rfl ?_
          refine X_iconst dX10_makeEnum_106 (by decide) ?_
          refine X_iconst dX10_makeEnum_107 (by decide) ?_
          refine X_invV (ci := 10) (as := [vi 3, vi (-1)]) (st := []) okX10_fail dX10_makeEnum_108 km_RX10_52 rfl rfl (Nat.le_of_ble_eq_true rfl) rfl rfl hc4.1 (CT.imp ((hc4.2.2 c5).2 c6) (fun z7 S7 V7 mc7 ms7 hc8 => ?_))
          refine X_iincN dX10_makeEnum_111 rfl (by decide) rfl (e := x2 + 1) rfl hc8.1 hc8.2.1 ?_
          refine X_goto dX10_makeEnum_114 (tgt := 65) rfl ?_
          exact X_weak [false, false, false, true] hc8.2.2
theorem qX10_makeEnum {l : Launch} {G : GT} {Q : Int → Sh → Mem → Prop} {d : Nat} {S : Sh} {V : Mem} {mc ms : Nat} {x0 x1 : Int} (h : 0 ≤ x0 → 0 ≤ x1 → XJ l G bX10_makeEnum Q d 0 [vr x0, vr x1, vu, vu] [] S V mc ms) : Ct l G bX10_makeEnum Q d mc ms [vr x0, vr x1] S V := Ct.of okX10_makeEnum.1 trivial (Nat.le_of_ble_eq_true rfl) (fun hv => h (hv _ (List.mem_of_getElem? (i := 0) rfl)) (hv _ (List.mem_of_getElem? (i := 1) rfl)))
set_option maxRecDepth 10000 in
theorem vX10_makeConstant_0 {l : Launch} {G : GT} {Q : Int → Sh → Mem → Prop} {d : Nat} {S : Sh} {V : Mem} {mc ms : Nat} {x0 x1 x2 : Int} (h : S.1 x1 = 4 ∧ S.1 (V x1 3) = 32 ∧ 0 ≤ x2 ∧ x2 < S.2.1 (V x1 3) ∧ S.1 (V (V x1 3) x2) = 3 ∧ ((V (V (V x1 3) x2) 1) = (-1) → S.1 x0 = 11 ∧ ((V x0 1) ≠ 0 → Q 0 S V) ∧ (¬ ((V x0 1) ≠ 0) → -2147483648 ≤ x2 + 1 ∧ x2 + 1 ≤ 2147483647 ∧ Q 0 S (up V x1 5 (x2 + 1)))) ∧ (¬ ((V (V (V x1 3) x2) 1) = (-1)) → S.1 x0 = 11 ∧ CT l G bX10_workOut d mc ms [vr x0, vi (V (V (V x1 3) x2) 1), vr x1, vi x2, vi (-1)] S V (fun z3 S3 V3 mc3 ms3 => S3.1 (V (V x1 3) x2) = 3 ∧ S3.1 x0 = 11 ∧ ((V3 x0 1) ≠ 0 → Q 0 S3 (up V3 (V (V x1 3) x2) 2 z3)) ∧ (¬ ((V3 x0 1) ≠ 0) → -2147483648 ≤ x2 + 1 ∧ x2 + 1 ≤ 2147483647 ∧ S3.1 x1 = 4 ∧ Q 0 S3 (up (up V3 (V (V x1 3) x2) 2 z3) x1 5 (x2 + 1)))))) : XJ l G bX10_makeConstant Q d 0 [vr x0, vr x1, vi x2, vu] [] S V mc ms := by
  refine X_aload_n dX10_makeConstant_0 rfl ?_
  refine X_getfield (ci := 3) (k := 3) (v := vr (V x1 3)) dX10_makeConstant_1 rfl (by decide) kf_RX10_168 rfl h.1 ?_
  refine X_iload_n dX10_makeConstant_4 rfl ?_
  refine X_aaload32 dX10_makeConstant_5 h.2.1 h.2.2.1 h.2.2.2.1 ?_
  refine X_astore_n dX10_makeConstant_6 (by decide) rfl ?_
  refine X_aload_n dX10_makeConstant_7 rfl ?_
  refine X_getfield (ci := 2) (k := 1) (v := vi (V (V (V x1 3) x2) 1)) dX10_makeConstant_8 rfl (by decide) kf_RX10_172 rfl h.2.2.2.2.1 ?_
  refine X_iconst dX10_makeConstant_11 (by decide) ?_
  refine X_icmp_eq dX10_makeConstant_12 (tgt := 30) rfl (fun c1 => ?_) (fun c1 => ?_)
  · refine X_aload_n dX10_makeConstant_30 rfl ?_
    refine X_getfield (ci := 10) (k := 1) (v := vi (V x0 1)) dX10_makeConstant_31 rfl (by decide) kf_RX10_28 rfl (h.2.2.2.2.2.1 c1).1 ?_
    refine X_if_ne dX10_makeConstant_34 (tgt := 44) rfl (fun c2 => ?_) (fun c2 => ?_)
    · exact X_ret (z := 0) dX10_makeConstant_44 rfl (fun _ => trivial) ((h.2.2.2.2.2.1 c1).2.1 c2)
    · refine X_aload_n dX10_makeConstant_37 rfl ?_
      refine X_iload_n dX10_makeConstant_38 rfl ?_
      refine X_iconst dX10_makeConstant_39 (by decide) ?_
      refine X_iaddN dX10_makeConstant_40 ((h.2.2.2.2.2.1 c1).2.2 c2).1 ((h.2.2.2.2.2.1 c1).2.2 c2).2.1 ?_
      refine X_putfield (ci := 3) (k := 5) (z := (x2 + 1)) dX10_makeConstant_41 rfl (by decide) kf_RX10_178 (Or.inl rfl) (Or.inl rfl) rfl (fun hv => hv) h.1 ?_
      exact X_ret (z := 0) dX10_makeConstant_44 rfl (fun _ => trivial) ((h.2.2.2.2.2.1 c1).2.2 c2).2.2
  · refine X_aload_n dX10_makeConstant_15 rfl ?_
    refine X_aload_n dX10_makeConstant_16 rfl ?_
    refine X_aload_n dX10_makeConstant_17 rfl ?_
    refine X_getfield (ci := 2) (k := 1) (v := vi (V (V (V x1 3) x2) 1)) dX10_makeConstant_18 rfl (by decide) kf_RX10_172 rfl h.2.2.2.2.1 ?_
    refine X_aload_n dX10_makeConstant_21 rfl ?_
    refine X_iload_n dX10_makeConstant_22 rfl ?_
    refine X_iconst dX10_makeConstant_23 (by decide) ?_
    refine X_invV (ci := 10) (as := [vi (V (V (V x1 3) x2) 1), vr x1, vi x2, vi (-1)]) (st := [vr (V (V x1 3) x2)]) okX10_workOut dX10_makeConstant_24 km_RX10_77 rfl rfl (Nat.le_of_ble_eq_true rfl) rfl rfl (h.2.2.2.2.2.2 c1).1 (CT.imp (h.2.2.2.2.2.2 c1).2 (fun z3 S3 V3 mc3 ms3 hc4 => ?_))
    refine X_putfield (ci := 2) (k := 2) (z := z3) dX10_makeConstant_27 rfl (by decide) kf_RX10_175 (Or.inl rfl) (Or.inl rfl) rfl (fun hv => hv) hc4.1 ?_
    refine X_aload_n dX10_makeConstant_30 rfl ?_
    refine X_getfield (ci := 10) (k := 1) (v := vi (V3 x0 1)) dX10_makeConstant_31 rfl (by decide) kf_RX10_28 (congrArg vi (up_ne (Or.inl (tag_ne hc4.2.1 hc4.1 (by decide))))) hc4.2.1 ?_
    refine X_if_ne dX10_makeConstant_34 (tgt := 44) rfl (fun c5 => ?_) (fun c5 => ?_)
    · exact X_ret (z := 0) dX10_makeConstant_44 rfl (fun _ => trivial) (hc4.2.2.1 c5)
    · refine X_aload_n dX10_makeConstant_37 rfl ?_
      refine X_iload_n dX10_makeConstant_38 rfl ?_
      refine X_iconst dX10_makeConstant_39 (by decide) ?_
      refine X_iaddN dX10_makeConstant_40 (hc4.2.2.2 c5).1 (hc4.2.2.2 c5).2.1 ?_
      refine X_putfield (ci := 3) (k := 5) (z := (x2 + 1)) dX10_makeConstant_41 rfl (by decide) kf_RX10_178 (Or.inl rfl) (Or.inl rfl) rfl (fun hv => hv) (hc4.2.2.2 c5).2.2.1 ?_
      exact X_ret (z := 0) dX10_makeConstant_44 rfl (fun _ => trivial) (hc4.2.2.2 c5).2.2.2
theorem qX10_makeConstant {l : Launch} {G : GT} {Q : Int → Sh → Mem → Prop} {d : Nat} {S : Sh} {V : Mem} {mc ms : Nat} {x0 x1 x2 : Int} (h : 0 ≤ x0 → 0 ≤ x1 → inI x2 → XJ l G bX10_makeConstant Q d 0 [vr x0, vr x1, vi x2, vu] [] S V mc ms) : Ct l G bX10_makeConstant Q d mc ms [vr x0, vr x1, vi x2] S V := Ct.of okX10_makeConstant.1 trivial (Nat.le_of_ble_eq_true rfl) (fun hv => h (hv _ (List.mem_of_getElem? (i := 0) rfl)) (hv _ (List.mem_of_getElem? (i := 1) rfl)) (hv _ (List.mem_of_getElem? (i := 2) rfl)))
set_option maxRecDepth 10000 in
theorem vX10_fillTable_0 {l : Launch} {G : GT} {Q : Int → Sh → Mem → Prop} {d : Nat} {S : Sh} {V : Mem} {mc ms : Nat} {x0 x1 x2 : Int} (h : XJ l G bX10_fillTable Q d 2 [vr x0, vr x1, vr x2, vi 0] [] S V mc ms) : XJ l G bX10_fillTable Q d 0 [vr x0, vr x1, vr x2, vu] [] S V mc ms := by
  refine X_iconst dX10_fillTable_0 (by decide) ?_
  refine X_istore_n dX10_fillTable_1 (by decide) rfl ?_
  exact h
set_option maxRecDepth 10000 in
theorem vX10_fillTable_2 {l : Launch} {G : GT} {Q : Int → Sh → Mem → Prop} {d : Nat} {S : Sh} {V : Mem} {mc ms : Nat} {x0 x1 x2 x3 : Int} (h : S.1 x2 = 9 ∧ ((V x2 3) ≤ x3 → Q 0 S V) ∧ (¬ ((V x2 3) ≤ x3) → S.1 x0 = 11 ∧ ((V x0 1) ≠ 0 → Q 0 S V) ∧ (¬ ((V x0 1) ≠ 0) → S.1 (V x2 1) = 20 ∧ 0 ≤ x3 ∧ x3 < S.2.1 (V x2 1) ∧ CT l G bX10_workOut d mc ms [vr x0, vi (V (V x2 1) x3), vr x1, vi (-1), vi (-1)] S V (fun z3 S3 V3 mc3 ms3 => S3.1 (V x2 2) = 20 ∧ 0 ≤ x3 ∧ x3 < S3.2.1 (V x2 2) ∧ S3.1 x0 = 11 ∧ ((V3 x0 1) ≠ 0 → -2147483648 ≤ x3 + 1 ∧ x3 + 1 ≤ 2147483647 ∧ XJ l G bX10_fillTable Q d 2 [vr x0, vr x1, vr x2, vi (x3 + 1)] [] S3 (up V3 (V x2 2) x3 z3) mc3 ms3) ∧ (¬ ((V3 x0 1) ≠ 0) → -2147483648 ≤ x3 + 1 ∧ x3 + 1 ≤ 2147483647 ∧ S3.1 x2 = 9 ∧ XJ l G bX10_fillTable Q d 2 [vr x0, vr x1, vr x2, vi (x3 + 1)] [] S3 (up (up V3 (V x2 2) x3 z3) x2 4 (x3 + 1)) mc3 ms3))))) : XJ l G bX10_fillTable Q d 2 [vr x0, vr x1, vr x2, vi x3] [] S V mc ms := by
  refine X_iload_n dX10_fillTable_2 rfl ?_
  refine X_aload_n dX10_fillTable_3 rfl ?_
  refine X_getfield (ci := 8) (k := 3) (v := vi (V x2 3)) dX10_fillTable_4 rfl (by decide) kf_RX10_181 rfl h.1 ?_
  refine X_icmp_ge dX10_fillTable_7 (tgt := 56) rfl (fun c1 => ?_) (fun c1 => ?_)
  · exact X_ret (z := 0) dX10_fillTable_56 rfl (fun _ => trivial) (h.2.1 c1)
  · refine X_aload_n dX10_fillTable_10 rfl ?_
    refine X_getfield (ci := 10) (k := 1) (v := vi (V x0 1)) dX10_fillTable_11 rfl (by decide) kf_RX10_28 rfl (h.2.2 c1).1 ?_
    refine X_if_ne dX10_fillTable_14 (tgt := 56) rfl (fun c2 => ?_) (fun c2 => ?_)
    · exact X_ret (z := 0) dX10_fillTable_56 rfl (fun _ => trivial) ((h.2.2 c1).2.1 c2)
    · refine X_aload_n dX10_fillTable_17 rfl ?_
      refine X_getfield (ci := 8) (k := 2) (v := vr (V x2 2)) dX10_fillTable_18 rfl (by decide) kf_RX10_186 rfl h.1 ?_
      refine X_iload_n dX10_fillTable_21 rfl ?_
      refine X_aload_n dX10_fillTable_22 rfl ?_
      refine X_aload_n dX10_fillTable_23 rfl ?_
      refine X_getfield (ci := 8) (k := 1) (v := vr (V x2 1)) dX10_fillTable_24 rfl (by decide) kf_RX10_189 rfl h.1 ?_
      refine X_iload_n dX10_fillTable_27 rfl ?_
      refine X_iaload dX10_fillTable_28 ((h.2.2 c1).2.2 c2).1 ((h.2.2 c1).2.2 c2).2.1 ((h.2.2 c1).2.2 c2).2.2.1 ?_
      refine X_aload_n dX10_fillTable_29 rfl ?_
      refine X_iconst dX10_fillTable_30 (by decide) ?_
      refine X_iconst dX10_fillTable_31 (by decide) ?_
      refine X_invV (ci := 10) (as := [vi (V (V x2 1) x3), vr x1, vi (-1), vi (-1)]) (st := [vi x3, vr (V x2 2)]) okX10_workOut dX10_fillTable_32 km_RX10_77 rfl rfl (Nat.le_of_ble_eq_true rfl) rfl rfl (h.2.2 c1).1 (CT.imp ((h.2.2 c1).2.2 c2).2.2.2 (fun z3 S3 V3 mc3 ms3 hc4 => ?_))
      refine X_iastore dX10_fillTable_35 hc4.1 hc4.2.1 hc4.2.2.1 ?_
      refine X_aload_n dX10_fillTable_36 rfl ?_
      refine X_getfield (ci := 10) (k := 1) (v := vi (V3 x0 1)) dX10_fillTable_37 rfl (by decide) kf_RX10_28 (congrArg vi (up_ne (Or.inl (tag_ne hc4.2.2.2.1 hc4.1 (by decide))))) hc4.2.2.2.1 ?_
      refine X_if_ne dX10_fillTable_40 (tgt := 50) rfl (fun c5 => ?_) (fun c5 => ?_)
      · refine X_iincN dX10_fillTable_50 rfl (by decide) rfl (e := x3 + 1) rfl (hc4.2.2.2.2.1 c5).1 (hc4.2.2.2.2.1 c5).2.1 ?_
        refine X_goto dX10_fillTable_53 (tgt := 2) rfl ?_
        exact (hc4.2.2.2.2.1 c5).2.2
      · refine X_aload_n dX10_fillTable_43 rfl ?_
        refine X_iload_n dX10_fillTable_44 rfl ?_
        refine X_iconst dX10_fillTable_45 (by decide) ?_
        refine X_iaddN dX10_fillTable_46 (hc4.2.2.2.2.2 c5).1 (hc4.2.2.2.2.2 c5).2.1 ?_
        refine X_putfield (ci := 8) (k := 4) (z := (x3 + 1)) dX10_fillTable_47 rfl (by decide) kf_RX10_192 (Or.inl rfl) (Or.inl rfl) rfl (fun hv => hv) (hc4.2.2.2.2.2 c5).2.2.1 ?_
        refine X_iincN dX10_fillTable_50 rfl (by decide) rfl (e := x3 + 1) rfl (hc4.2.2.2.2.2 c5).1 (hc4.2.2.2.2.2 c5).2.1 ?_
        refine X_goto dX10_fillTable_53 (tgt := 2) rfl ?_
        exact (hc4.2.2.2.2.2 c5).2.2.2
theorem qX10_fillTable {l : Launch} {G : GT} {Q : Int → Sh → Mem → Prop} {d : Nat} {S : Sh} {V : Mem} {mc ms : Nat} {x0 x1 x2 : Int} (h : 0 ≤ x0 → 0 ≤ x1 → 0 ≤ x2 → XJ l G bX10_fillTable Q d 0 [vr x0, vr x1, vr x2, vu] [] S V mc ms) : Ct l G bX10_fillTable Q d mc ms [vr x0, vr x1, vr x2] S V := Ct.of okX10_fillTable.1 trivial (Nat.le_of_ble_eq_true rfl) (fun hv => h (hv _ (List.mem_of_getElem? (i := 0) rfl)) (hv _ (List.mem_of_getElem? (i := 1) rfl)) (hv _ (List.mem_of_getElem? (i := 2) rfl)))
set_option maxRecDepth 10000 in
theorem vX10_workOut_0 {l : Launch} {G : GT} {Q : Int → Sh → Mem → Prop} {d : Nat} {S : Sh} {V : Mem} {mc ms : Nat} {x0 x1 x2 x3 x4 : Int} (h : S.1 x0 = 11 ∧ S.1 (V x0 0) = 1 ∧ 1 ≤ d ∧ XJ l G bX10_workOut Q d 16 [vr x0, vi x1, vr x2, vi x3, vi x4, vr (V (V x0 0) 3), vi (imax x1 0), vu] [] S V mc ms) : XJ l G bX10_workOut Q d 0 [vr x0, vi x1, vr x2, vi x3, vi x4, vu, vu, vu] [] S V mc ms := by
  refine X_aload_n dX10_workOut_0 rfl ?_
  refine X_getfield (ci := 10) (k := 0) (v := vr (V x0 0)) dX10_workOut_1 rfl (by decide) kf_RX10_24 rfl h.1 ?_
  refine X_getfield (ci := 0) (k := 3) (v := vr (V (V x0 0) 3)) dX10_workOut_4 rfl (by decide) kf_RX10_90 rfl h.2.1 ?_
  refine X_astore dX10_workOut_7 (by decide) rfl ?_
  refine X_iload_n dX10_workOut_9 rfl ?_
  refine X_iconst dX10_workOut_10 (by decide) ?_
  refine X_mmax dX10_workOut_11 km_RX10_195 (Nat.le_of_ble_eq_true rfl) h.2.2.1 ?_
  refine X_istore dX10_workOut_14 (by decide) rfl ?_
  exact h.2.2.2
set_option maxRecDepth 10000 in
theorem vX10_workOut_16 {l : Launch} {G : GT} {Q : Int → Sh → Mem → Prop} {d : Nat} {S : Sh} {V : Mem} {mc ms : Nat} {x0 x1 x2 x3 x4 x5 x6 : Int} (h : S.1 x5 = 2 ∧ ((V x5 2) ≤ x6 → S.1 x0 = 11 ∧ ((V x0 1) = 0 → CT l G bX10_pop d mc ms [vr x0] S V (fun z3 S3 V3 mc3 ms3 => Q z3 S3 V3)) ∧ (¬ ((V x0 1) = 0) → Q 0 S V)) ∧ (¬ ((V x5 2) ≤ x6) → S.1 x0 = 11 ∧ ((V x0 1) ≠ 0 → ((V x0 1) = 0 → CT l G bX10_pop d mc ms [vr x0] S V (fun z7 S7 V7 mc7 ms7 => Q z7 S7 V7)) ∧ (¬ ((V x0 1) = 0) → Q 0 S V)) ∧ (¬ ((V x0 1) ≠ 0) → S.1 (V x5 0) = 20 ∧ 0 ≤ x6 ∧ x6 < S.2.1 (V x5 0) ∧ ((V (V x5 0) x6) ≠ 0 → S.1 (V x5 1) = 20 ∧ x6 < S.2.1 (V x5 1) ∧ CT l G bX10_takeStep d mc ms [vr x0, vi (V (V x5 0) x6), vi (V (V x5 1) x6), vr x2, vi x3, vi x4] S V (fun z10 S10 V10 mc10 ms10 => -2147483648 ≤ x6 + 1 ∧ x6 + 1 ≤ 2147483647 ∧ XJ l G bX10_workOut Q d 16 [vr x0, vi x1, vr x2, vi x3, vi x4, vr x5, vi (x6 + 1), vu] [] S10 V10 mc10 ms10)) ∧ (¬ ((V (V x5 0) x6) ≠ 0) → ((V x0 1) = 0 → CT l G bX10_pop d mc ms [vr x0] S V (fun z13 S13 V13 mc13 ms13 => Q z13 S13 V13)) ∧ (¬ ((V x0 1) = 0) → Q 0 S V))))) : XJ l G bX10_workOut Q d 16 [vr x0, vi x1, vr x2, vi x3, vi x4, vr x5, vi x6, vu] [] S V mc ms := by
  refine X_iload dX10_workOut_16 rfl ?_
  refine X_aload dX10_workOut_18 rfl ?_
  refine X_getfield (ci := 1) (k := 2) (v := vi (V x5 2)) dX10_workOut_20 rfl (by decide) kf_RX10_94 rfl h.1 ?_
  refine X_icmp_ge dX10_workOut_23 (tgt := 75) rfl (fun c1 => ?_) (fun c1 => ?_)
  · refine X_aload_n dX10_workOut_75 rfl ?_
    refine X_getfield (ci := 10) (k := 1) (v := vi (V x0 1)) dX10_workOut_76 rfl (by decide) kf_RX10_28 rfl (h.2.1 c1).1 ?_
    refine X_if_eq dX10_workOut_79 (tgt := 86) rfl (fun c2 => ?_) (fun c2 => ?_)
    · refine X_aload_n dX10_workOut_86 rfl ?_
      refine X_invV (ci := 10) (as := []) (st := []) okX10_pop dX10_workOut_87 km_RX10_208 rfl rfl (Nat.le_of_ble_eq_true rfl) rfl rfl (h.2.1 c1).1 (CT.imp ((h.2.1 c1).2.1 c2) (fun z3 S3 V3 mc3 ms3 hc4 => ?_))
      exact X_ret (z := z3) dX10_workOut_90 rfl (fun hv => vok_h hv) hc4
    · refine X_iconst dX10_workOut_82 (by decide) ?_
      refine X_goto dX10_workOut_83 (tgt := 90) rfl ?_
      exact X_ret (z := 0) dX10_workOut_90 rfl (fun hv => vok_h hv) ((h.2.1 c1).2.2 c2)
  · refine X_aload_n dX10_workOut_26 rfl ?_
    refine X_getfield (ci := 10) (k := 1) (v := vi (V x0 1)) dX10_workOut_27 rfl (by decide) kf_RX10_28 rfl (h.2.2 c1).1 ?_
    refine X_if_ne dX10_workOut_30 (tgt := 75) rfl (fun c5 => ?_) (fun c5 => ?_)
    · refine X_aload_n dX10_workOut_75 rfl ?_
      refine X_getfield (ci := 10) (k := 1) (v := vi (V x0 1)) dX10_workOut_76 rfl (by decide) kf_RX10_28 rfl (h.2.2 c1).1 ?_
      refine X_if_eq dX10_workOut_79 (tgt := 86) rfl (fun c6 => ?_) (fun c6 => ?_)
      · refine X_aload_n dX10_workOut_86 rfl ?_
        refine X_invV (ci := 10) (as := []) (st := []) okX10_pop dX10_workOut_87 km_RX10_208 rfl rfl (Nat.le_of_ble_eq_true rfl) rfl rfl (h.2.2 c1).1 (CT.imp (((h.2.2 c1).2.1 c5).1 c6) (fun z7 S7 V7 mc7 ms7 hc8 => ?_))
        exact X_ret (z := z7) dX10_workOut_90 rfl (fun hv => vok_h hv) hc8
      · refine X_iconst dX10_workOut_82 (by decide) ?_
        refine X_goto dX10_workOut_83 (tgt := 90) rfl ?_
        exact X_ret (z := 0) dX10_workOut_90 rfl (fun hv => vok_h hv) (((h.2.2 c1).2.1 c5).2 c6)
    · refine X_aload dX10_workOut_33 rfl ?_
      refine X_getfield (ci := 1) (k := 0) (v := vr (V x5 0)) dX10_workOut_35 rfl (by decide) kf_RX10_201 rfl h.1 ?_
      refine X_iload dX10_workOut_38 rfl ?_
      refine X_iaload dX10_workOut_40 ((h.2.2 c1).2.2 c5).1 ((h.2.2 c1).2.2 c5).2.1 ((h.2.2 c1).2.2 c5).2.2.1 ?_
      refine X_istore dX10_workOut_41 (by decide) rfl ?_
      refine X_iload dX10_workOut_43 rfl ?_
      refine X_if_ne dX10_workOut_45 (tgt := 51) rfl (fun c9 => ?_) (fun c9 => ?_)
      · refine X_aload_n dX10_workOut_51 rfl ?_
        refine X_iload dX10_workOut_52 rfl ?_
        refine X_aload dX10_workOut_54 rfl ?_
        refine X_getfield (ci := 1) (k := 1) (v := vr (V x5 1)) dX10_workOut_56 rfl (by decide) kf_RX10_99 rfl h.1 ?_
        refine X_iload dX10_workOut_59 rfl ?_
        refine X_iaload dX10_workOut_61 (((h.2.2 c1).2.2 c5).2.2.2.1 c9).1 ((h.2.2 c1).2.2 c5).2.1 (((h.2.2 c1).2.2 c5).2.2.2.1 c9).2.1 ?_
        refine X_aload_n dX10_workOut_62 rfl ?_
        refine X_iload_n dX10_workOut_63 rfl ?_
        refine X_iload dX10_workOut_64 rfl ?_
        refine X_invV (ci := 10) (as := [vi (V (V x5 0) x6), vi (V (V x5 1) x6), vr x2, vi x3, vi x4]) (st := []) okX10_takeStep dX10_workOut_66 km_RX10_204 rfl rfl (Nat.le_of_ble_eq_true rfl) rfl rfl (h.2.2 c1).1 (CT.imp (((h.2.2 c1).2.2 c5).2.2.2.1 c9).2.2 (fun z10 S10 V10 mc10 ms10 hc11 => ?_))
        refine X_iincN dX10_workOut_69 rfl (by decide) rfl (e := x6 + 1) rfl hc11.1 hc11.2.1 ?_
        refine X_goto dX10_workOut_72 (tgt := 16) rfl ?_
        exact X_weak [false, false, false, false, false, false, false, true] hc11.2.2
      · refine X_goto dX10_workOut_48 (tgt := 75) rfl ?_
        refine X_aload_n dX10_workOut_75 rfl ?_
        refine X_getfield (ci := 10) (k := 1) (v := vi (V x0 1)) dX10_workOut_76 rfl (by decide) kf_RX10_28 rfl (h.2.2 c1).1 ?_
        refine X_if_eq dX10_workOut_79 (tgt := 86) rfl (fun c12 => ?_) (fun c12 => ?_)
        · refine X_aload_n dX10_workOut_86 rfl ?_
          refine X_invV (ci := 10) (as := []) (st := []) okX10_pop dX10_workOut_87 km_RX10_208 rfl rfl (Nat.le_of_ble_eq_true rfl) rfl rfl (h.2.2 c1).1 (CT.imp ((((h.2.2 c1).2.2 c5).2.2.2.2 c9).1 c12) (fun z13 S13 V13 mc13 ms13 hc14 => ?_))
          exact X_ret (z := z13) dX10_workOut_90 rfl (fun hv => vok_h hv) hc14
        · refine X_iconst dX10_workOut_82 (by decide) ?_
          refine X_goto dX10_workOut_83 (tgt := 90) rfl ?_
          exact X_ret (z := 0) dX10_workOut_90 rfl (fun hv => vok_h hv) ((((h.2.2 c1).2.2 c5).2.2.2.2 c9).2 c12)
theorem qX10_workOut {l : Launch} {G : GT} {Q : Int → Sh → Mem → Prop} {d : Nat} {S : Sh} {V : Mem} {mc ms : Nat} {x0 x1 x2 x3 x4 : Int} (h : 0 ≤ x0 → inI x1 → 0 ≤ x2 → inI x3 → inI x4 → XJ l G bX10_workOut Q d 0 [vr x0, vi x1, vr x2, vi x3, vi x4, vu, vu, vu] [] S V mc ms) : Ct l G bX10_workOut Q d mc ms [vr x0, vi x1, vr x2, vi x3, vi x4] S V := Ct.of okX10_workOut.1 trivial (Nat.le_of_ble_eq_true rfl) (fun hv => h (hv _ (List.mem_of_getElem? (i := 0) rfl)) (hv _ (List.mem_of_getElem? (i := 1) rfl)) (hv _ (List.mem_of_getElem? (i := 2) rfl)) (hv _ (List.mem_of_getElem? (i := 3) rfl)) (hv _ (List.mem_of_getElem? (i := 4) rfl)))
set_option maxRecDepth 10000 in
theorem vX10_takeStep_0 {l : Launch} {G : GT} {Q : Int → Sh → Mem → Prop} {d : Nat} {S : Sh} {V : Mem} {mc ms : Nat} {x0 x1 x2 x3 x4 x5 : Int} (h : (x1 = 1 → S.1 x0 = 11 ∧ CT l G bX10_push d mc ms [vr x0, vi x2] S V (fun z2 S2 V2 mc2 ms2 => Q 0 S2 V2)) ∧ (¬ x1 = 1 → (x1 = 2 → S.1 x0 = 11 ∧ CT l G bX10_push d mc ms [vr x0, vi x4] S V (fun z5 S5 V5 mc5 ms5 => Q 0 S5 V5)) ∧ (¬ x1 = 2 → (x1 = 3 → CT l G bX10_argumentOf d mc ms [vr x3, vi x4] S V (fun z8 S8 V8 mc8 ms8 => S8.1 x0 = 11 ∧ CT l G bX10_push d mc8 ms8 [vr x0, vi z8] S8 V8 (fun z10 S10 V10 mc10 ms10 => Q 0 S10 V10))) ∧ (¬ x1 = 3 → (x1 = 4 → S.1 x0 = 11 ∧ CT l G bX10_workOutAbove d mc ms [vr x0, vr x3, vi x4, vi x5] S V (fun z13 S13 V13 mc13 ms13 => S13.1 x0 = 11 ∧ CT l G bX10_push d mc13 ms13 [vr x0, vi z13] S13 V13 (fun z15 S15 V15 mc15 ms15 => Q 0 S15 V15))) ∧ (¬ x1 = 4 → (x1 = 5 → S.1 x0 = 11 ∧ CT l G bX10_combine d mc ms [vr x0, vi x1] S V (fun z18 S18 V18 mc18 ms18 => Q 0 S18 V18)) ∧ (¬ x1 = 5 → (x1 = 6 → S.1 x0 = 11 ∧ CT l G bX10_pop d mc ms [vr x0] S V (fun z21 S21 V21 mc21 ms21 => S21.1 x0 = 11 ∧ CT l G bX10_push d mc21 ms21 [vr x0, vi (wr (-z21))] S21 V21 (fun z23 S23 V23 mc23 ms23 => Q 0 S23 V23))) ∧ (¬ x1 = 6 → (x1 = 7 → S.1 x0 = 11 ∧ CT l G bX10_combine d mc ms [vr x0, vi x1] S V (fun z26 S26 V26 mc26 ms26 => Q 0 S26 V26)) ∧ (¬ x1 = 7 → (x1 = 8 → S.1 x0 = 11 ∧ CT l G bX10_combine d mc ms [vr x0, vi x1] S V (fun z29 S29 V29 mc29 ms29 => Q 0 S29 V29)) ∧ (¬ x1 = 8 → (x1 = 9 → S.1 x0 = 11 ∧ CT l G bX10_combine d mc ms [vr x0, vi x1] S V (fun z32 S32 V32 mc32 ms32 => Q 0 S32 V32)) ∧ (¬ x1 = 9 → (x1 = 10 → S.1 x0 = 11 ∧ CT l G bX10_combine d mc ms [vr x0, vi x1] S V (fun z35 S35 V35 mc35 ms35 => Q 0 S35 V35)) ∧ (¬ x1 = 10 → (x1 = 11 → S.1 x0 = 11 ∧ CT l G bX10_combine d mc ms [vr x0, vi x1] S V (fun z38 S38 V38 mc38 ms38 => Q 0 S38 V38)) ∧ (¬ x1 = 11 → (x1 = 12 → S.1 x0 = 11 ∧ CT l G bX10_combine d mc ms [vr x0, vi x1] S V (fun z41 S41 V41 mc41 ms41 => Q 0 S41 V41)) ∧ (¬ x1 = 12 → (x1 = 13 → S.1 x0 = 11 ∧ CT l G bX10_combine d mc ms [vr x0, vi x1] S V (fun z44 S44 V44 mc44 ms44 => Q 0 S44 V44)) ∧ (¬ x1 = 13 → (x1 = 14 → S.1 x0 = 11 ∧ CT l G bX10_combine d mc ms [vr x0, vi x1] S V (fun z47 S47 V47 mc47 ms47 => Q 0 S47 V47)) ∧ (¬ x1 = 14 → (x1 = 15 → S.1 x0 = 11 ∧ CT l G bX10_readConstant d mc ms [vr x0, vi (x2.tdiv 24), vi (x2.tmod 24)] S V (fun z50 S50 V50 mc50 ms50 => S50.1 x0 = 11 ∧ CT l G bX10_push d mc50 ms50 [vr x0, vi z50] S50 V50 (fun z52 S52 V52 mc52 ms52 => Q 0 S52 V52))) ∧ (¬ x1 = 15 → (x1 = 16 → S.1 x0 = 11 ∧ CT l G bX10_readHolder d mc ms [vr x0, vi x2] S V (fun z55 S55 V55 mc55 ms55 => S55.1 x0 = 11 ∧ CT l G bX10_push d mc55 ms55 [vr x0, vi z55] S55 V55 (fun z57 S57 V57 mc57 ms57 => Q 0 S57 V57))) ∧ (¬ x1 = 16 → (x1 = 17 → S.1 x0 = 11 ∧ CT l G bX10_useItem d mc ms [vr x0, vi x2] S V (fun z60 S60 V60 mc60 ms60 => Q 0 S60 V60)) ∧ (¬ x1 = 17 → (x1 = 18 → S.1 x0 = 11 ∧ CT l G bX10_pop d mc ms [vr x0] S V (fun z63 S63 V63 mc63 ms63 => S63.1 x0 = 11 ∧ CT l G bX10_readEntry d mc63 ms63 [vr x0, vi (x2.tdiv 4), vi (x2.tmod 4), vi z63] S63 V63 (fun z65 S65 V65 mc65 ms65 => S65.1 x0 = 11 ∧ CT l G bX10_push d mc65 ms65 [vr x0, vi z65] S65 V65 (fun z67 S67 V67 mc67 ms67 => Q 0 S67 V67)))) ∧ (¬ x1 = 18 → S.1 x0 = 11 ∧ CT l G bX10_combine d mc ms [vr x0, vi x1] S V (fun z69 S69 V69 mc69 ms69 => Q 0 S69 V69)))))))))))))))))))) : XJ l G bX10_takeStep Q d 0 [vr x0, vi x1, vi x2, vr x3, vi x4, vi x5] [] S V mc ms := by
  refine X_iload_n dX10_takeStep_0 rfl ?_
  by_cases c1 : x1 = 1
  · refine X_table dX10_takeStep_1 88 87 (by rw [c1]; rfl) rfl ?_
    refine X_aload_n dX10_takeStep_88 rfl ?_
    refine X_iload_n dX10_takeStep_89 rfl ?_
    refine X_invV (ci := 10) (as := [vi x2]) (st := []) okX10_push dX10_takeStep_90 km_RX10_212 rfl rfl (Nat.le_of_ble_eq_true rfl) rfl rfl (h.1 c1).1 (CT.imp (h.1 c1).2 (fun z2 S2 V2 mc2 ms2 hc3 => ?_))
    refine X_goto dX10_takeStep_93 (tgt := 211) rfl ?_
    exact X_ret (z := 0) dX10_takeStep_211 rfl (fun _ => trivial) hc3
  by_cases c4 : x1 = 2
  · refine X_table dX10_takeStep_1 96 95 (by rw [c4]; rfl) rfl ?_
    refine X_aload_n dX10_takeStep_96 rfl ?_
    refine X_iload dX10_takeStep_97 rfl ?_
    refine X_invV (ci := 10) (as := [vi x4]) (st := []) okX10_push dX10_takeStep_99 km_RX10_212 rfl rfl (Nat.le_of_ble_eq_true rfl) rfl rfl ((h.2 c1).1 c4).1 (CT.imp ((h.2 c1).1 c4).2 (fun z5 S5 V5 mc5 ms5 hc6 => ?_))
    refine X_goto dX10_takeStep_102 (tgt := 211) rfl ?_
    exact X_ret (z := 0) dX10_takeStep_211 rfl (fun _ => trivial) hc6
  by_cases c7 : x1 = 3
  · refine X_table dX10_takeStep_1 105 104 (by rw [c7]; rfl) rfl ?_
    refine X_aload_n dX10_takeStep_105 rfl ?_
    refine X_aload_n dX10_takeStep_106 rfl ?_
    refine X_iload dX10_takeStep_107 rfl ?_
    refine X_invS (as := [vr x3, vi x4]) (st := [vr x0]) okX10_argumentOf dX10_takeStep_109 km_RX10_215 rfl rfl (Nat.le_of_ble_eq_true rfl) (CT.imp (((h.2 c1).2 c4).1 c7) (fun z8 S8 V8 mc8 ms8 hc9 => ?_))
    refine X_invV (ci := 10) (as := [vi z8]) (st := []) okX10_push dX10_takeStep_112 km_RX10_212 rfl rfl (Nat.le_of_ble_eq_true rfl) rfl rfl hc9.1 (CT.imp hc9.2 (fun z10 S10 V10 mc10 ms10 hc11 => ?_))
    refine X_goto dX10_takeStep_115 (tgt := 211) rfl ?_
    exact X_ret (z := 0) dX10_takeStep_211 rfl (fun _ => trivial) hc11
  by_cases c12 : x1 = 4
  · refine X_table dX10_takeStep_1 118 117 (by rw [c12]; rfl) rfl ?_
    refine X_aload_n dX10_takeStep_118 rfl ?_
    refine X_aload_n dX10_takeStep_119 rfl ?_
    refine X_aload_n dX10_takeStep_120 rfl ?_
    refine X_iload dX10_takeStep_121 rfl ?_
    refine X_iload dX10_takeStep_123 rfl ?_
    refine X_invV (ci := 10) (as := [vr x3, vi x4, vi x5]) (st := [vr x0]) okX10_workOutAbove dX10_takeStep_125 km_RX10_219 rfl rfl (Nat.le_of_ble_eq_true rfl) rfl rfl ((((h.2 c1).2 c4).2 c7).1 c12).1 (CT.imp ((((h.2 c1).2 c4).2 c7).1 c12).2 (fun z13 S13 V13 mc13 ms13 hc14 => ?_))
    refine X_invV (ci := 10) (as := [vi z13]) (st := []) okX10_push dX10_takeStep_128 km_RX10_212 rfl rfl (Nat.le_of_ble_eq_true rfl) rfl rfl hc14.1 (CT.imp hc14.2 (fun z15 S15 V15 mc15 ms15 hc16 => ?_))
    refine X_goto dX10_takeStep_131 (tgt := 211) rfl ?_
    exact X_ret (z := 0) dX10_takeStep_211 rfl (fun _ => trivial) hc16
  by_cases c17 : x1 = 5
  · refine X_table dX10_takeStep_1 206 205 (by rw [c17]; rfl) rfl ?_
    refine X_aload_n dX10_takeStep_206 rfl ?_
    refine X_iload_n dX10_takeStep_207 rfl ?_
    refine X_invV (ci := 10) (as := [vi x1]) (st := []) okX10_combine dX10_takeStep_208 km_RX10_232 rfl rfl (Nat.le_of_ble_eq_true rfl) rfl rfl (((((h.2 c1).2 c4).2 c7).2 c12).1 c17).1 (CT.imp (((((h.2 c1).2 c4).2 c7).2 c12).1 c17).2 (fun z18 S18 V18 mc18 ms18 hc19 => ?_))
    exact X_ret (z := 0) dX10_takeStep_211 rfl (fun _ => trivial) hc19
  by_cases c20 : x1 = 6
  · refine X_table dX10_takeStep_1 194 193 (by rw [c20]; rfl) rfl ?_
    refine X_aload_n dX10_takeStep_194 rfl ?_
    refine X_aload_n dX10_takeStep_195 rfl ?_
    refine X_invV (ci := 10) (as := []) (st := [vr x0]) okX10_pop dX10_takeStep_196 km_RX10_208 rfl rfl (Nat.le_of_ble_eq_true rfl) rfl rfl ((((((h.2 c1).2 c4).2 c7).2 c12).2 c17).1 c20).1 (CT.imp ((((((h.2 c1).2 c4).2 c7).2 c12).2 c17).1 c20).2 (fun z21 S21 V21 mc21 ms21 hc22 => ?_))
    refine X_ineg dX10_takeStep_199 ?_
    refine X_invV (ci := 10) (as := [vi (wr (-z21))]) (st := []) okX10_push dX10_takeStep_200 km_RX10_212 rfl rfl (Nat.le_of_ble_eq_true rfl) rfl rfl hc22.1 (CT.imp hc22.2 (fun z23 S23 V23 mc23 ms23 hc24 => ?_))
    refine X_goto dX10_takeStep_203 (tgt := 211) rfl ?_
    exact X_ret (z := 0) dX10_takeStep_211 rfl (fun _ => trivial) hc24
  by_cases c25 : x1 = 7
  · refine X_table dX10_takeStep_1 206 205 (by rw [c25]; rfl) rfl ?_
    refine X_aload_n dX10_takeStep_206 rfl ?_
    refine X_iload_n dX10_takeStep_207 rfl ?_
    refine X_invV (ci := 10) (as := [vi x1]) (st := []) okX10_combine dX10_takeStep_208 km_RX10_232 rfl rfl (Nat.le_of_ble_eq_true rfl) rfl rfl (((((((h.2 c1).2 c4).2 c7).2 c12).2 c17).2 c20).1 c25).1 (CT.imp (((((((h.2 c1).2 c4).2 c7).2 c12).2 c17).2 c20).1 c25).2 (fun z26 S26 V26 mc26 ms26 hc27 => ?_))
    exact X_ret (z := 0) dX10_takeStep_211 rfl (fun _ => trivial) hc27
  by_cases c28 : x1 = 8
  · refine X_table dX10_takeStep_1 206 205 (by rw [c28]; rfl) rfl ?_
    refine X_aload_n dX10_takeStep_206 rfl ?_
    refine X_iload_n dX10_takeStep_207 rfl ?_
    refine X_invV (ci := 10) (as := [vi x1]) (st := []) okX10_combine dX10_takeStep_208 km_RX10_232 rfl rfl (Nat.le_of_ble_eq_true rfl) rfl rfl ((((((((h.2 c1).2 c4).2 c7).2 c12).2 c17).2 c20).2 c25).1 c28).1 (CT.imp ((((((((h.2 c1).2 c4).2 c7).2 c12).2 c17).2 c20).2 c25).1 c28).2 (fun z29 S29 V29 mc29 ms29 hc30 => ?_))
    exact X_ret (z := 0) dX10_takeStep_211 rfl (fun _ => trivial) hc30
  by_cases c31 : x1 = 9
  · refine X_table dX10_takeStep_1 206 205 (by rw [c31]; rfl) rfl ?_
    refine X_aload_n dX10_takeStep_206 rfl ?_
    refine X_iload_n dX10_takeStep_207 rfl ?_
    refine X_invV (ci := 10) (as := [vi x1]) (st := []) okX10_combine dX10_takeStep_208 km_RX10_232 rfl rfl (Nat.le_of_ble_eq_true rfl) rfl rfl (((((((((h.2 c1).2 c4).2 c7).2 c12).2 c17).2 c20).2 c25).2 c28).1 c31).1 (CT.imp (((((((((h.2 c1).2 c4).2 c7).2 c12).2 c17).2 c20).2 c25).2 c28).1 c31).2 (fun z32 S32 V32 mc32 ms32 hc33 => ?_))
    exact X_ret (z := 0) dX10_takeStep_211 rfl (fun _ => trivial) hc33
  by_cases c34 : x1 = 10
  · refine X_table dX10_takeStep_1 206 205 (by rw [c34]; rfl) rfl ?_
    refine X_aload_n dX10_takeStep_206 rfl ?_
    refine X_iload_n dX10_takeStep_207 rfl ?_
    refine X_invV (ci := 10) (as := [vi x1]) (st := []) okX10_combine dX10_takeStep_208 km_RX10_232 rfl rfl (Nat.le_of_ble_eq_true rfl) rfl rfl ((((((((((h.2 c1).2 c4).2 c7).2 c12).2 c17).2 c20).2 c25).2 c28).2 c31).1 c34).1 (CT.imp ((((((((((h.2 c1).2 c4).2 c7).2 c12).2 c17).2 c20).2 c25).2 c28).2 c31).1 c34).2 (fun z35 S35 V35 mc35 ms35 hc36 => ?_))
    exact X_ret (z := 0) dX10_takeStep_211 rfl (fun _ => trivial) hc36
  by_cases c37 : x1 = 11
  · refine X_table dX10_takeStep_1 206 205 (by rw [c37]; rfl) rfl ?_
    refine X_aload_n dX10_takeStep_206 rfl ?_
    refine X_iload_n dX10_takeStep_207 rfl ?_
    refine X_invV (ci := 10) (as := [vi x1]) (st := []) okX10_combine dX10_takeStep_208 km_RX10_232 rfl rfl (Nat.le_of_ble_eq_true rfl) rfl rfl (((((((((((h.2 c1).2 c4).2 c7).2 c12).2 c17).2 c20).2 c25).2 c28).2 c31).2 c34).1 c37).1 (CT.imp (((((((((((h.2 c1).2 c4).2 c7).2 c12).2 c17).2 c20).2 c25).2 c28).2 c31).2 c34).1 c37).2 (fun z38 S38 V38 mc38 ms38 hc39 => ?_))
    exact X_ret (z := 0) dX10_takeStep_211 rfl (fun _ => trivial) hc39
  by_cases c40 : x1 = 12
  · refine X_table dX10_takeStep_1 206 205 (by rw [c40]; rfl) rfl ?_
    refine X_aload_n dX10_takeStep_206 rfl ?_
    refine X_iload_n dX10_takeStep_207 rfl ?_
    refine X_invV (ci := 10) (as := [vi x1]) (st := []) okX10_combine dX10_takeStep_208 km_RX10_232 rfl rfl (Nat.le_of_ble_eq_true rfl) rfl rfl ((((((((((((h.2 c1).2 c4).2 c7).2 c12).2 c17).2 c20).2 c25).2 c28).2 c31).2 c34).2 c37).1 c40).1 (CT.imp ((((((((((((h.2 c1).2 c4).2 c7).2 c12).2 c17).2 c20).2 c25).2 c28).2 c31).2 c34).2 c37).1 c40).2 (fun z41 S41 V41 mc41 ms41 hc42 => ?_))
    exact X_ret (z := 0) dX10_takeStep_211 rfl (fun _ => trivial) hc42
  by_cases c43 : x1 = 13
  · refine X_table dX10_takeStep_1 206 205 (by rw [c43]; rfl) rfl ?_
    refine X_aload_n dX10_takeStep_206 rfl ?_
    refine X_iload_n dX10_takeStep_207 rfl ?_
    refine X_invV (ci := 10) (as := [vi x1]) (st := []) okX10_combine dX10_takeStep_208 km_RX10_232 rfl rfl (Nat.le_of_ble_eq_true rfl) rfl rfl (((((((((((((h.2 c1).2 c4).2 c7).2 c12).2 c17).2 c20).2 c25).2 c28).2 c31).2 c34).2 c37).2 c40).1 c43).1 (CT.imp (((((((((((((h.2 c1).2 c4).2 c7).2 c12).2 c17).2 c20).2 c25).2 c28).2 c31).2 c34).2 c37).2 c40).1 c43).2 (fun z44 S44 V44 mc44 ms44 hc45 => ?_))
    exact X_ret (z := 0) dX10_takeStep_211 rfl (fun _ => trivial) hc45
  by_cases c46 : x1 = 14
  · refine X_table dX10_takeStep_1 206 205 (by rw [c46]; rfl) rfl ?_
    refine X_aload_n dX10_takeStep_206 rfl ?_
    refine X_iload_n dX10_takeStep_207 rfl ?_
    refine X_invV (ci := 10) (as := [vi x1]) (st := []) okX10_combine dX10_takeStep_208 km_RX10_232 rfl rfl (Nat.le_of_ble_eq_true rfl) rfl rfl ((((((((((((((h.2 c1).2 c4).2 c7).2 c12).2 c17).2 c20).2 c25).2 c28).2 c31).2 c34).2 c37).2 c40).2 c43).1 c46).1 (CT.imp ((((((((((((((h.2 c1).2 c4).2 c7).2 c12).2 c17).2 c20).2 c25).2 c28).2 c31).2 c34).2 c37).2 c40).2 c43).1 c46).2 (fun z47 S47 V47 mc47 ms47 hc48 => ?_))
    exact X_ret (z := 0) dX10_takeStep_211 rfl (fun _ => trivial) hc48
  by_cases c49 : x1 = 15
  · refine X_table dX10_takeStep_1 134 133 (by rw [c49]; rfl) rfl ?_
    refine X_aload_n dX10_takeStep_134 rfl ?_
    refine X_aload_n dX10_takeStep_135 rfl ?_
    refine X_iload_n dX10_takeStep_136 rfl ?_
    refine X_bipush dX10_takeStep_137 (by decide) (by decide) ?_
    refine X_idivP dX10_takeStep_139 (by decide) ?_
    refine X_iload_n dX10_takeStep_140 rfl ?_
    refine X_bipush dX10_takeStep_141 (by decide) (by decide) ?_
    refine X_iremP dX10_takeStep_143 (by decide) ?_
    refine X_invV (ci := 10) (as := [vi (x2.tdiv 24), vi (x2.tmod 24)]) (st := [vr x0]) okX10_readConstant dX10_takeStep_144 km_RX10_222 rfl rfl (Nat.le_of_ble_eq_true rfl) rfl rfl (((((((((((((((h.2 c1).2 c4).2 c7).2 c12).2 c17).2 c20).2 c25).2 c28).2 c31).2 c34).2 c37).2 c40).2 c43).2 c46).1 c49).1 (CT.imp (((((((((((((((h.2 c1).2 c4).2 c7).2 c12).2 c17).2 c20).2 c25).2 c28).2 c31).2 c34).2 c37).2 c40).2 c43).2 c46).1 c49).2 (fun z50 S50 V50 mc50 ms50 hc51 => ?_))
    refine X_invV (ci := 10) (as := [vi z50]) (st := []) okX10_push dX10_takeStep_147 km_RX10_212 rfl rfl (Nat.le_of_ble_eq_true rfl) rfl rfl hc51.1 (CT.imp hc51.2 (fun z52 S52 V52 mc52 ms52 hc53 => ?_))
    refine X_goto dX10_takeStep_150 (tgt := 211) rfl ?_
    exact X_ret (z := 0) dX10_takeStep_211 rfl (fun _ => trivial) hc53
  by_cases c54 : x1 = 16
  · refine X_table dX10_takeStep_1 153 152 (by rw [c54]; rfl) rfl ?_
    refine X_aload_n dX10_takeStep_153 rfl ?_
    refine X_aload_n dX10_takeStep_154 rfl ?_
    refine X_iload_n dX10_takeStep_155 rfl ?_
    refine X_invV (ci := 10) (as := [vi x2]) (st := [vr x0]) okX10_readHolder dX10_takeStep_156 km_RX10_225 rfl rfl (Nat.le_of_ble_eq_true rfl) rfl rfl ((((((((((((((((h.2 c1).2 c4).2 c7).2 c12).2 c17).2 c20).2 c25).2 c28).2 c31).2 c34).2 c37).2 c40).2 c43).2 c46).2 c49).1 c54).1 (CT.imp ((((((((((((((((h.2 c1).2 c4).2 c7).2 c12).2 c17).2 c20).2 c25).2 c28).2 c31).2 c34).2 c37).2 c40).2 c43).2 c46).2 c49).1 c54).2 (fun z55 S55 V55 mc55 ms55 hc56 => ?_))
    refine X_invV (ci := 10) (as := [vi z55]) (st := []) okX10_push dX10_takeStep_159 km_RX10_212 rfl rfl (Nat.le_of_ble_eq_true rfl) rfl rfl hc56.1 (CT.imp hc56.2 (fun z57 S57 V57 mc57 ms57 hc58 => ?_))
    refine X_goto dX10_takeStep_162 (tgt := 211) rfl ?_
    exact X_ret (z := 0) dX10_takeStep_211 rfl (fun _ => trivial) hc58
  by_cases c59 : x1 = 17
  · refine X_table dX10_takeStep_1 165 164 (by rw [c59]; rfl) rfl ?_
    refine X_aload_n dX10_takeStep_165 rfl ?_
    refine X_iload_n dX10_takeStep_166 rfl ?_
    refine X_invV (ci := 10) (as := [vi x2]) (st := []) okX10_useItem dX10_takeStep_167 km_RX10_39 rfl rfl (Nat.le_of_ble_eq_true rfl) rfl rfl (((((((((((((((((h.2 c1).2 c4).2 c7).2 c12).2 c17).2 c20).2 c25).2 c28).2 c31).2 c34).2 c37).2 c40).2 c43).2 c46).2 c49).2 c54).1 c59).1 (CT.imp (((((((((((((((((h.2 c1).2 c4).2 c7).2 c12).2 c17).2 c20).2 c25).2 c28).2 c31).2 c34).2 c37).2 c40).2 c43).2 c46).2 c49).2 c54).1 c59).2 (fun z60 S60 V60 mc60 ms60 hc61 => ?_))
    refine X_goto dX10_takeStep_170 (tgt := 211) rfl ?_
    exact X_ret (z := 0) dX10_takeStep_211 rfl (fun _ => trivial) hc61
  by_cases c62 : x1 = 18
  · refine X_table dX10_takeStep_1 173 172 (by rw [c62]; rfl) rfl ?_
    refine X_aload_n dX10_takeStep_173 rfl ?_
    refine X_aload_n dX10_takeStep_174 rfl ?_
    refine X_iload_n dX10_takeStep_175 rfl ?_
    refine X_iconst dX10_takeStep_176 (by decide) ?_
    refine X_idivP dX10_takeStep_177 (by decide) ?_
    refine X_iload_n dX10_takeStep_178 rfl ?_
    refine X_iconst dX10_takeStep_179 (by decide) ?_
    refine X_iremP dX10_takeStep_180 (by decide) ?_
    refine X_aload_n dX10_takeStep_181 rfl ?_
    refine X_invV (ci := 10) (as := []) (st := [vi (x2.tmod 4), vi (x2.tdiv 4), vr x0, vr x0]) okX10_pop dX10_takeStep_182 km_RX10_208 rfl rfl (Nat.le_of_ble_eq_true rfl) rfl rfl ((((((((((((((((((h.2 c1).2 c4).2 c7).2 c12).2 c17).2 c20).2 c25).2 c28).2 c31).2 c34).2 c37).2 c40).2 c43).2 c46).2 c49).2 c54).2 c59).1 c62).1 (CT.imp ((((((((((((((((((h.2 c1).2 c4).2 c7).2 c12).2 c17).2 c20).2 c25).2 c28).2 c31).2 c34).2 c37).2 c40).2 c43).2 c46).2 c49).2 c54).2 c59).1 c62).2 (fun z63 S63 V63 mc63 ms63 hc64 => ?_))
    refine X_invV (ci := 10) (as := [vi (x2.tdiv 4), vi (x2.tmod 4), vi z63]) (st := [vr x0]) okX10_readEntry dX10_takeStep_185 km_RX10_228 rfl rfl (Nat.le_of_ble_eq_true rfl) rfl rfl hc64.1 (CT.imp hc64.2 (fun z65 S65 V65 mc65 ms65 hc66 => ?_))
    refine X_invV (ci := 10) (as := [vi z65]) (st := []) okX10_push dX10_takeStep_188 km_RX10_212 rfl rfl (Nat.le_of_ble_eq_true rfl) rfl rfl hc66.1 (CT.imp hc66.2 (fun z67 S67 V67 mc67 ms67 hc68 => ?_))
    refine X_goto dX10_takeStep_191 (tgt := 211) rfl ?_
    exact X_ret (z := 0) dX10_takeStep_211 rfl (fun _ => trivial) hc68
  refine X_table dX10_takeStep_1 206 205 (tbl_df (by omega)) rfl ?_
  refine X_aload_n dX10_takeStep_206 rfl ?_
  refine X_iload_n dX10_takeStep_207 rfl ?_
  refine X_invV (ci := 10) (as := [vi x1]) (st := []) okX10_combine dX10_takeStep_208 km_RX10_232 rfl rfl (Nat.le_of_ble_eq_true rfl) rfl rfl ((((((((((((((((((h.2 c1).2 c4).2 c7).2 c12).2 c17).2 c20).2 c25).2 c28).2 c31).2 c34).2 c37).2 c40).2 c43).2 c46).2 c49).2 c54).2 c59).2 c62).1 (CT.imp ((((((((((((((((((h.2 c1).2 c4).2 c7).2 c12).2 c17).2 c20).2 c25).2 c28).2 c31).2 c34).2 c37).2 c40).2 c43).2 c46).2 c49).2 c54).2 c59).2 c62).2 (fun z69 S69 V69 mc69 ms69 hc70 => ?_))
  exact X_ret (z := 0) dX10_takeStep_211 rfl (fun _ => trivial) hc70
theorem qX10_takeStep {l : Launch} {G : GT} {Q : Int → Sh → Mem → Prop} {d : Nat} {S : Sh} {V : Mem} {mc ms : Nat} {x0 x1 x2 x3 x4 x5 : Int} (h : 0 ≤ x0 → inI x1 → inI x2 → 0 ≤ x3 → inI x4 → inI x5 → XJ l G bX10_takeStep Q d 0 [vr x0, vi x1, vi x2, vr x3, vi x4, vi x5] [] S V mc ms) : Ct l G bX10_takeStep Q d mc ms [vr x0, vi x1, vi x2, vr x3, vi x4, vi x5] S V := Ct.of okX10_takeStep.1 trivial (Nat.le_of_ble_eq_true rfl) (fun hv => h (hv _ (List.mem_of_getElem? (i := 0) rfl)) (hv _ (List.mem_of_getElem? (i := 1) rfl)) (hv _ (List.mem_of_getElem? (i := 2) rfl)) (hv _ (List.mem_of_getElem? (i := 3) rfl)) (hv _ (List.mem_of_getElem? (i := 4) rfl)) (hv _ (List.mem_of_getElem? (i := 5) rfl)))
set_option maxRecDepth 10000 in
theorem vX10_combine_0 {l : Launch} {G : GT} {Q : Int → Sh → Mem → Prop} {d : Nat} {S : Sh} {V : Mem} {mc ms : Nat} {x0 x1 : Int} (h : S.1 x0 = 11 ∧ CT l G bX10_pop d mc ms [vr x0] S V (fun z1 S1 V1 mc1 ms1 => S1.1 x0 = 11 ∧ CT l G bX10_pop d mc1 ms1 [vr x0] S1 V1 (fun z3 S3 V3 mc3 ms3 => (x1 = 7 → S3.1 x0 = 11 ∧ CT l G bX10_push d mc3 ms3 [vr x0, vi (wr (z3 + z1))] S3 V3 (fun z6 S6 V6 mc6 ms6 => Q 0 S6 V6)) ∧ (¬ x1 = 7 → (x1 = 8 → S3.1 x0 = 11 ∧ CT l G bX10_push d mc3 ms3 [vr x0, vi (wr (z3 - z1))] S3 V3 (fun z9 S9 V9 mc9 ms9 => Q 0 S9 V9)) ∧ (¬ x1 = 8 → (x1 = 9 → S3.1 x0 = 11 ∧ CT l G bX10_push d mc3 ms3 [vr x0, vi (wr (z3 * z1))] S3 V3 (fun z12 S12 V12 mc12 ms12 => Q 0 S12 V12)) ∧ (¬ x1 = 9 → (z1 ≠ 0 → z1 ≠ 0 ∧ S3.1 x0 = 11 ∧ CT l G bX10_push d mc3 ms3 [vr x0, vi (wr (z3.tdiv z1))] S3 V3 (fun z15 S15 V15 mc15 ms15 => Q 0 S15 V15)) ∧ (¬ (z1 ≠ 0) → S3.1 x0 = 11 ∧ CT l G bX10_fail d mc3 ms3 [vr x0, vi 4, vi (-1)] S3 V3 (fun z17 S17 V17 mc17 ms17 => Q 0 S17 V17)))))))) : XJ l G bX10_combine Q d 0 [vr x0, vi x1, vu, vu] [] S V mc ms := by
  refine X_aload_n dX10_combine_0 rfl ?_
  refine X_invV (ci := 10) (as := []) (st := []) okX10_pop dX10_combine_1 km_RX10_208 rfl rfl (Nat.le_of_ble_eq_true rfl) rfl rfl h.1 (CT.imp h.2 (fun z1 S1 V1 mc1 ms1 hc2 => ?_))
  refine X_istore_n dX10_combine_4 (by decide) rfl ?_
  refine X_aload_n dX10_combine_5 rfl ?_
  refine X_invV (ci := 10) (as := []) (st := []) okX10_pop dX10_combine_6 km_RX10_208 rfl rfl (Nat.le_of_ble_eq_true rfl) rfl rfl hc2.1 (CT.imp hc2.2 (fun z3 S3 V3 mc3 ms3 hc4 => ?_))
  refine X_istore_n dX10_combine_9 (by decide) rfl ?_
  refine X_iload_n dX10_combine_10 rfl ?_
  by_cases c5 : x1 = 7
  · refine X_table dX10_combine_11 36 25 (by rw [c5]; rfl) rfl ?_
    refine X_aload_n dX10_combine_36 rfl ?_
    refine X_iload_n dX10_combine_37 rfl ?_
    refine X_iload_n dX10_combine_38 rfl ?_
    refine X_iadd dX10_combine_39 ?_
    refine X_invV (ci := 10) (as := [vi (wr (z3 + z1))]) (st := []) okX10_push dX10_combine_40 km_RX10_212 rfl rfl (Nat.le_of_ble_eq_true rfl) rfl rfl (hc4.1 c5).1 (CT.imp (hc4.1 c5).2 (fun z6 S6 V6 mc6 ms6 hc7 => ?_))
    refine X_goto dX10_combine_43 (tgt := 86) rfl ?_
    exact X_ret (z := 0) dX10_combine_86 rfl (fun _ => trivial) hc7
  by_cases c8 : x1 = 8
  · refine X_table dX10_combine_11 46 35 (by rw [c8]; rfl) rfl ?_
    refine X_aload_n dX10_combine_46 rfl ?_
    refine X_iload_n dX10_combine_47 rfl ?_
    refine X_iload_n dX10_combine_48 rfl ?_
    refine X_isub dX10_combine_49 ?_
    refine X_invV (ci := 10) (as := [vi (wr (z3 - z1))]) (st := []) okX10_push dX10_combine_50 km_RX10_212 rfl rfl (Nat.le_of_ble_eq_true rfl) rfl rfl ((hc4.2 c5).1 c8).1 (CT.imp ((hc4.2 c5).1 c8).2 (fun z9 S9 V9 mc9 ms9 hc10 => ?_))
    refine X_goto dX10_combine_53 (tgt := 86) rfl ?_
    exact X_ret (z := 0) dX10_combine_86 rfl (fun _ => trivial) hc10
  by_cases c11 : x1 = 9
  · refine X_table dX10_combine_11 56 45 (by rw [c11]; rfl) rfl ?_
    refine X_aload_n dX10_combine_56 rfl ?_
    refine X_iload_n dX10_combine_57 rfl ?_
    refine X_iload_n dX10_combine_58 rfl ?_
    refine X_imul dX10_combine_59 ?_
    refine X_invV (ci := 10) (as := [vi (wr (z3 * z1))]) (st := []) okX10_push dX10_combine_60 km_RX10_212 rfl rfl (Nat.le_of_ble_eq_true rfl) rfl rfl (((hc4.2 c5).2 c8).1 c11).1 (CT.imp (((hc4.2 c5).2 c8).1 c11).2 (fun z12 S12 V12 mc12 ms12 hc13 => ?_))
    refine X_goto dX10_combine_63 (tgt := 86) rfl ?_
    exact X_ret (z := 0) dX10_combine_86 rfl (fun _ => trivial) hc13
  refine X_table dX10_combine_11 66 55 (tbl_df (by omega)) rfl ?_
  refine X_iload_n dX10_combine_66 rfl ?_
  refine X_if_ne dX10_combine_67 (tgt := 79) rfl (fun c14 => ?_) (fun c14 => ?_)
  · refine X_aload_n dX10_combine_79 rfl ?_
    refine X_iload_n dX10_combine_80 rfl ?_
    refine X_iload_n dX10_combine_81 rfl ?_
    refine X_idiv dX10_combine_82 ((((hc4.2 c5).2 c8).2 c11).1 c14).1 ?_
    refine X_invV (ci := 10) (as := [vi (wr (z3.tdiv z1))]) (st := []) okX10_push dX10_combine_83 km_RX10_212 rfl rfl (Nat.le_of_ble_eq_true rfl) rfl rfl ((((hc4.2 c5).2 c8).2 c11).1 c14).2.1 (CT.imp ((((hc4.2 c5).2 c8).2 c11).1 c14).2.2 (fun z15 S15 V15 mc15 ms15 hc16 => ?_))
    exact X_ret (z := 0) dX10_combine_86 rfl (fun _ => trivial) hc16
  · refine X_aload_n dX10_combine_70 rfl ?_
    refine X_iconst dX10_combine_71 (by decide) ?_
    refine X_iconst dX10_combine_72 (by decide) ?_
    refine X_invV (ci := 10) (as := [vi 4, vi (-1)]) (st := []) okX10_fail dX10_combine_73 km_RX10_52 rfl rfl (Nat.le_of_ble_eq_true rfl) rfl rfl ((((hc4.2 c5).2 c8).2 c11).2 c14).1 (CT.imp ((((hc4.2 c5).2 c8).2 c11).2 c14).2 (fun z17 S17 V17 mc17 ms17 hc18 => ?_))
    refine X_goto dX10_combine_76 (tgt := 86) rfl ?_
    exact X_ret (z := 0) dX10_combine_86 rfl (fun _ => trivial) hc18
theorem qX10_combine {l : Launch} {G : GT} {Q : Int → Sh → Mem → Prop} {d : Nat} {S : Sh} {V : Mem} {mc ms : Nat} {x0 x1 : Int} (h : 0 ≤ x0 → inI x1 → XJ l G bX10_combine Q d 0 [vr x0, vi x1, vu, vu] [] S V mc ms) : Ct l G bX10_combine Q d mc ms [vr x0, vi x1] S V := Ct.of okX10_combine.1 trivial (Nat.le_of_ble_eq_true rfl) (fun hv => h (hv _ (List.mem_of_getElem? (i := 0) rfl)) (hv _ (List.mem_of_getElem? (i := 1) rfl)))
set_option maxRecDepth 10000 in
theorem vX10_argumentOf_0 {l : Launch} {G : GT} {Q : Int → Sh → Mem → Prop} {d : Nat} {S : Sh} {V : Mem} {mc ms : Nat} {x0 x1 : Int} (h : S.1 x0 = 4 ∧ CT l G bX3_constantAt d mc ms [vr x0, vi x1] S V (fun z1 S1 V1 mc1 ms1 => (z1 ≠ 0 → S1.1 z1 = 3 ∧ Q (V1 z1 2) S1 V1) ∧ (¬ (z1 ≠ 0) → Q 0 S1 V1))) : XJ l G bX10_argumentOf Q d 0 [vr x0, vi x1, vu] [] S V mc ms := by
  refine X_aload_n dX10_argumentOf_0 rfl ?_
  refine X_iload_n dX10_argumentOf_1 rfl ?_
  refine X_invV (ci := 3) (as := [vi x1]) (st := []) okX3_constantAt dX10_argumentOf_2 km_RX10_62 rfl rfl (Nat.le_of_ble_eq_true rfl) rfl rfl h.1 (CT.imp h.2 (fun z1 S1 V1 mc1 ms1 hc2 => ?_))
  refine X_astore_n dX10_argumentOf_5 (by decide) rfl ?_
  refine X_aload_n dX10_argumentOf_6 rfl ?_
  refine X_ifnonnull dX10_argumentOf_7 (tgt := 14) rfl (fun c3 => ?_) (fun c3 => ?_)
  · refine X_aload_n dX10_argumentOf_14 rfl ?_
    refine X_getfield (ci := 2) (k := 2) (v := vi (V1 z1 2)) dX10_argumentOf_15 rfl (by decide) kf_RX10_175 rfl (hc2.1 c3).1 ?_
    exact X_ret (z := (V1 z1 2)) dX10_argumentOf_18 rfl (fun hv => vok_h hv) (hc2.1 c3).2
  · refine X_iconst dX10_argumentOf_10 (by decide) ?_
    refine X_goto dX10_argumentOf_11 (tgt := 18) rfl ?_
    exact X_ret (z := 0) dX10_argumentOf_18 rfl (fun hv => vok_h hv) (hc2.2 c3)
theorem qX10_argumentOf {l : Launch} {G : GT} {Q : Int → Sh → Mem → Prop} {d : Nat} {S : Sh} {V : Mem} {mc ms : Nat} {x0 x1 : Int} (h : 0 ≤ x0 → inI x1 → XJ l G bX10_argumentOf Q d 0 [vr x0, vi x1, vu] [] S V mc ms) : Ct l G bX10_argumentOf Q d mc ms [vr x0, vi x1] S V := Ct.of okX10_argumentOf.1 trivial (Nat.le_of_ble_eq_true rfl) (fun hv => h (hv _ (List.mem_of_getElem? (i := 0) rfl)) (hv _ (List.mem_of_getElem? (i := 1) rfl)))
set_option maxRecDepth 10000 in
theorem vX10_workOutAbove_0 {l : Launch} {G : GT} {Q : Int → Sh → Mem → Prop} {d : Nat} {S : Sh} {V : Mem} {mc ms : Nat} {x0 x1 x2 x3 : Int} (h : S.1 x0 = 11 ∧ ((V x0 9) ≠ 0 → Q (V x0 10) S V) ∧ (¬ ((V x0 9) ≠ 0) → CT l G bX10_performShared d mc ms [vr x0, vr x1, vi x2, vi x3] S V (fun z2 S2 V2 mc2 ms2 => S2.1 x0 = 11 ∧ ((V2 x0 1) ≠ 0 → Q z2 S2 (up (up V2 x0 10 z2) x0 9 0)) ∧ (¬ ((V2 x0 1) ≠ 0) → Q z2 S2 (up (up V2 x0 10 z2) x0 9 1))))) : XJ l G bX10_workOutAbove Q d 0 [vr x0, vr x1, vi x2, vi x3] [] S V mc ms := by
  refine X_aload_n dX10_workOutAbove_0 rfl ?_
  refine X_getfield (ci := 10) (k := 9) (v := vi (V x0 9)) dX10_workOutAbove_1 rfl (by decide) kf_RX10_59 rfl h.1 ?_
  refine X_if_ne dX10_workOutAbove_4 (tgt := 34) rfl (fun c1 => ?_) (fun c1 => ?_)
  · refine X_aload_n dX10_workOutAbove_34 rfl ?_
    refine X_getfield (ci := 10) (k := 10) (v := vi (V x0 10)) dX10_workOutAbove_35 rfl (by decide) kf_RX10_235 rfl h.1 ?_
    exact X_ret (z := (V x0 10)) dX10_workOutAbove_38 rfl (fun hv => vok_h hv) (h.2.1 c1)
  · refine X_aload_n dX10_workOutAbove_7 rfl ?_
    refine X_aload_n dX10_workOutAbove_8 rfl ?_
    refine X_aload_n dX10_workOutAbove_9 rfl ?_
    refine X_iload_n dX10_workOutAbove_10 rfl ?_
    refine X_iload_n dX10_workOutAbove_11 rfl ?_
    refine X_invV (ci := 10) (as := [vr x1, vi x2, vi x3]) (st := [vr x0]) okX10_performShared dX10_workOutAbove_12 km_RX10_73 rfl rfl (Nat.le_of_ble_eq_true rfl) rfl rfl h.1 (CT.imp (h.2.2 c1) (fun z2 S2 V2 mc2 ms2 hc3 => ?_))
    refine X_putfield (ci := 10) (k := 10) (z := z2) dX10_workOutAbove_15 rfl (by decide) kf_RX10_235 (Or.inl rfl) (Or.inl rfl) rfl (fun hv => hv) hc3.1 ?_
    refine X_aload_n dX10_workOutAbove_18 rfl ?_
    refine X_aload_n dX10_workOutAbove_19 rfl ?_
    refine X_getfield (ci := 10) (k := 1) (v := vi (V2 x0 1)) dX10_workOutAbove_20 rfl (by decide) kf_RX10_28 (congrArg vi (up_ne (Or.inr (by decide)))) hc3.1 ?_
    refine X_if_ne dX10_workOutAbove_23 (tgt := 30) rfl (fun c4 => ?_) (fun c4 => ?_)
    · refine X_iconst dX10_workOutAbove_30 (by decide) ?_
      refine X_putfield (ci := 10) (k := 9) (z := 0) dX10_workOutAbove_31 rfl (by decide) kf_RX10_59 (Or.inr (Or.inr (Or.inl rfl))) (Or.inl rfl) rfl (fun _ => Or.inl rfl) hc3.1 ?_
      refine X_aload_n dX10_workOutAbove_34 rfl ?_
      refine X_getfield (ci := 10) (k := 10) (v := vi z2) dX10_workOutAbove_35 rfl (by decide) kf_RX10_235 (congrArg vi ((up_ne (Or.inr (by decide))).trans up_eq)) hc3.1 ?_
      exact X_ret (z := z2) dX10_workOutAbove_38 rfl (fun hv => vok_h hv) (hc3.2.1 c4)
    · refine X_iconst dX10_workOutAbove_26 (by decide) ?_
      refine X_goto dX10_workOutAbove_27 (tgt := 31) rfl ?_
      refine X_putfield (ci := 10) (k := 9) (z := 1) dX10_workOutAbove_31 rfl (by decide) kf_RX10_59 (Or.inr (Or.inr (Or.inl rfl))) (Or.inl rfl) rfl (fun _ => Or.inr rfl) hc3.1 ?_
      refine X_aload_n dX10_workOutAbove_34 rfl ?_
      refine X_getfield (ci := 10) (k := 10) (v := vi z2) dX10_workOutAbove_35 rfl (by decide) kf_RX10_235 (congrArg vi ((up_ne (Or.inr (by decide))).trans up_eq)) hc3.1 ?_
      exact X_ret (z := z2) dX10_workOutAbove_38 rfl (fun hv => vok_h hv) (hc3.2.2 c4)
theorem qX10_workOutAbove {l : Launch} {G : GT} {Q : Int → Sh → Mem → Prop} {d : Nat} {S : Sh} {V : Mem} {mc ms : Nat} {x0 x1 x2 x3 : Int} (h : 0 ≤ x0 → 0 ≤ x1 → inI x2 → inI x3 → XJ l G bX10_workOutAbove Q d 0 [vr x0, vr x1, vi x2, vi x3] [] S V mc ms) : Ct l G bX10_workOutAbove Q d mc ms [vr x0, vr x1, vi x2, vi x3] S V := Ct.of okX10_workOutAbove.1 trivial (Nat.le_of_ble_eq_true rfl) (fun hv => h (hv _ (List.mem_of_getElem? (i := 0) rfl)) (hv _ (List.mem_of_getElem? (i := 1) rfl)) (hv _ (List.mem_of_getElem? (i := 2) rfl)) (hv _ (List.mem_of_getElem? (i := 3) rfl)))
set_option maxRecDepth 10000 in
theorem vX10_readConstant_0 {l : Launch} {G : GT} {Q : Int → Sh → Mem → Prop} {d : Nat} {S : Sh} {V : Mem} {mc ms : Nat} {x0 x1 x2 : Int} (h : S.1 x0 = 11 ∧ CT l G bX10_useItem d mc ms [vr x0, vi x1] S V (fun z1 S1 V1 mc1 ms1 => S1.1 x0 = 11 ∧ S1.1 (V1 x0 0) = 1 ∧ CT l G bX0_enumAt d mc1 ms1 [vr (V1 x0 0), vi x1] S1 V1 (fun z3 S3 V3 mc3 ms3 => S3.1 x0 = 11 ∧ ((V3 x0 1) ≠ 0 → Q 0 S3 V3) ∧ (¬ ((V3 x0 1) ≠ 0) → (z3 ≠ 0 → S3.1 z3 = 4 ∧ ((V3 z3 5) ≤ x2 → CT l G bX10_see d mc3 ms3 [vr x0, vi x1, vi (-1)] S3 V3 (fun z8 S8 V8 mc8 ms8 => Q z8 S8 V8)) ∧ (¬ ((V3 z3 5) ≤ x2) → Q x2 S3 V3)) ∧ (¬ (z3 ≠ 0) → Q 0 S3 V3))))) : XJ l G bX10_readConstant Q d 0 [vr x0, vi x1, vi x2, vu] [] S V mc ms := by
  refine X_aload_n dX10_readConstant_0 rfl ?_
  refine X_iload_n dX10_readConstant_1 rfl ?_
  refine X_invV (ci := 10) (as := [vi x1]) (st := []) okX10_useItem dX10_readConstant_2 km_RX10_39 rfl rfl (Nat.le_of_ble_eq_true rfl) rfl rfl h.1 (CT.imp h.2 (fun z1 S1 V1 mc1 ms1 hc2 => ?_))
  refine X_aload_n dX10_readConstant_5 rfl ?_
  refine X_getfield (ci := 10) (k := 0) (v := vr (V1 x0 0)) dX10_readConstant_6 rfl (by decide) kf_RX10_24 rfl hc2.1 ?_
  refine X_iload_n dX10_readConstant_9 rfl ?_
  refine X_invV (ci := 0) (as := [vi x1]) (st := []) okX0_enumAt dX10_readConstant_10 km_RX10_114 rfl rfl (Nat.le_of_ble_eq_true rfl) rfl rfl hc2.2.1 (CT.imp hc2.2.2 (fun z3 S3 V3 mc3 ms3 hc4 => ?_))
  refine X_astore_n dX10_readConstant_13 (by decide) rfl ?_
  refine X_aload_n dX10_readConstant_14 rfl ?_
  refine X_getfield (ci := 10) (k := 1) (v := vi (V3 x0 1)) dX10_readConstant_15 rfl (by decide) kf_RX10_28 rfl hc4.1 ?_
  refine X_if_ne dX10_readConstant_18 (tgt := 25) rfl (fun c5 => ?_) (fun c5 => ?_)
  · refine X_iconst dX10_readConstant_25 (by decide) ?_
    exact X_ret (z := 0) dX10_readConstant_26 rfl (fun hv => vok_h hv) (hc4.2.1 c5)
  · refine X_aload_n dX10_readConstant_21 rfl ?_
    refine X_ifnonnull dX10_readConstant_22 (tgt := 27) rfl (fun c6 => ?_) (fun c6 => ?_)
    · refine X_iload_n dX10_readConstant_27 rfl ?_
      refine X_aload_n dX10_readConstant_28 rfl ?_
      refine X_getfield (ci := 3) (k := 5) (v := vi (V3 z3 5)) dX10_readConstant_29 rfl (by decide) kf_RX10_178 rfl ((hc4.2.2 c5).1 c6).1 ?_
      refine X_icmp_ge dX10_readConstant_32 (tgt := 39) rfl (fun c7 => ?_) (fun c7 => ?_)
      · refine X_aload_n dX10_readConstant_39 rfl ?_
        refine X_iload_n dX10_readConstant_40 rfl ?_
        refine X_iconst dX10_readConstant_41 (by decide) ?_
        refine X_invV (ci := 10) (as := [vi x1, vi (-1)]) (st := []) okX10_see dX10_readConstant_42 km_RX10_238 rfl rfl (Nat.le_of_ble_eq_true rfl) rfl rfl hc4.1 (CT.imp (((hc4.2.2 c5).1 c6).2.1 c7) (fun z8 S8 V8 mc8 ms8 hc9 => ?_))
        exact X_ret (z := z8) dX10_readConstant_45 rfl (fun hv => vok_h hv) hc9
      · refine X_iload_n dX10_readConstant_35 rfl ?_
        refine X_goto dX10_readConstant_36 (tgt := 45) rfl ?_
        exact X_ret (z := x2) dX10_readConstant_45 rfl (fun hv => vok_h hv) (((hc4.2.2 c5).1 c6).2.2 c7)
    · refine X_iconst dX10_readConstant_25 (by decide) ?_
      exact X_ret (z := 0) dX10_readConstant_26 rfl (fun hv => vok_h hv) ((hc4.2.2 c5).2 c6)
theorem qX10_readConstant {l : Launch} {G : GT} {Q : Int → Sh → Mem → Prop} {d : Nat} {S : Sh} {V : Mem} {mc ms : Nat} {x0 x1 x2 : Int} (h : 0 ≤ x0 → inI x1 → inI x2 → XJ l G bX10_readConstant Q d 0 [vr x0, vi x1, vi x2, vu] [] S V mc ms) : Ct l G bX10_readConstant Q d mc ms [vr x0, vi x1, vi x2] S V := Ct.of okX10_readConstant.1 trivial (Nat.le_of_ble_eq_true rfl) (fun hv => h (hv _ (List.mem_of_getElem? (i := 0) rfl)) (hv _ (List.mem_of_getElem? (i := 1) rfl)) (hv _ (List.mem_of_getElem? (i := 2) rfl)))
set_option maxRecDepth 10000 in
theorem vX10_readHolder_0 {l : Launch} {G : GT} {Q : Int → Sh → Mem → Prop} {d : Nat} {S : Sh} {V : Mem} {mc ms : Nat} {x0 x1 : Int} (h : S.1 x0 = 11 ∧ CT l G bX10_useItem d mc ms [vr x0, vi x1] S V (fun z1 S1 V1 mc1 ms1 => S1.1 x0 = 11 ∧ ((V1 x0 1) = 0 → S1.1 (V1 x0 0) = 1 ∧ CT l G bX0_stateOf d mc1 ms1 [vr (V1 x0 0), vi x1] S1 V1 (fun z4 S4 V4 mc4 ms4 => (z4 ≠ 3 → S4.1 x0 = 11 ∧ CT l G bX0_enumOfItem d mc4 ms4 [vi x1] S4 V4 (fun z7 S7 V7 mc7 ms7 => S7.1 (V4 x0 0) = 1 ∧ CT l G bX0_enumAt d mc7 ms7 [vr (V4 x0 0), vi z7] S7 V7 (fun z9 S9 V9 mc9 ms9 => CT l G bX0_holderOfItem d mc9 ms9 [vi x1] S9 V9 (fun z11 S11 V11 mc11 ms11 => (z9 = 0 → Q 0 S11 V11) ∧ (¬ (z9 = 0) → (0 ≤ z11 → S11.1 z9 = 4 ∧ S11.1 (V11 z9 13) = 20 ∧ 0 ≤ z11 ∧ z11 < S11.2.1 (V11 z9 13) ∧ Q (V11 (V11 z9 13) z11) S11 V11) ∧ (¬ (0 ≤ z11) → Q 0 S11 V11)))))) ∧ (¬ (z4 ≠ 3) → S4.1 x0 = 11 ∧ CT l G bX10_see d mc4 ms4 [vr x0, vi x1, vi 0] S4 V4 (fun z15 S15 V15 mc15 ms15 => Q z15 S15 V15)))) ∧ (¬ ((V1 x0 1) = 0) → Q 0 S1 V1))) : XJ l G bX10_readHolder Q d 0 [vr x0, vi x1, vu, vu] [] S V mc ms := by
  refine X_aload_n dX10_readHolder_0 rfl ?_
  refine X_iload_n dX10_readHolder_1 rfl ?_
  refine X_invV (ci := 10) (as := [vi x1]) (st := []) okX10_useItem dX10_readHolder_2 km_RX10_39 rfl rfl (Nat.le_of_ble_eq_true rfl) rfl rfl h.1 (CT.imp h.2 (fun z1 S1 V1 mc1 ms1 hc2 => ?_))
  refine X_aload_n dX10_readHolder_5 rfl ?_
  refine X_getfield (ci := 10) (k := 1) (v := vi (V1 x0 1)) dX10_readHolder_6 rfl (by decide) kf_RX10_28 rfl hc2.1 ?_
  refine X_if_eq dX10_readHolder_9 (tgt := 14) rfl (fun c3 => ?_) (fun c3 => ?_)
  · refine X_aload_n dX10_readHolder_14 rfl ?_
    refine X_getfield (ci := 10) (k := 0) (v := vr (V1 x0 0)) dX10_readHolder_15 rfl (by decide) kf_RX10_24 rfl hc2.1 ?_
    refine X_iload_n dX10_readHolder_18 rfl ?_
    refine X_invV (ci := 0) (as := [vi x1]) (st := []) okX0_stateOf dX10_readHolder_19 km_RX10_46 rfl rfl (Nat.le_of_ble_eq_true rfl) rfl rfl (hc2.2.1 c3).1 (CT.imp (hc2.2.1 c3).2 (fun z4 S4 V4 mc4 ms4 hc5 => ?_))
    refine X_iconst dX10_readHolder_22 (by decide) ?_
    refine X_icmp_ne dX10_readHolder_23 (tgt := 33) rfl (fun c6 => ?_) (fun c6 => ?_)
    · refine X_aload_n dX10_readHolder_33 rfl ?_
      refine X_getfield (ci := 10) (k := 0) (v := vr (V4 x0 0)) dX10_readHolder_34 rfl (by decide) kf_RX10_24 rfl (hc5.1 c6).1 ?_
      refine X_iload_n dX10_readHolder_37 rfl ?_
      refine X_invS (as := [vi x1]) (st := [vr (V4 x0 0)]) okX0_enumOfItem dX10_readHolder_38 km_RX10_111 rfl rfl (Nat.le_of_ble_eq_true rfl) (CT.imp (hc5.1 c6).2 (fun z7 S7 V7 mc7 ms7 hc8 => ?_))
      refine X_invV (ci := 0) (as := [vi z7]) (st := []) okX0_enumAt dX10_readHolder_41 km_RX10_114 rfl rfl (Nat.le_of_ble_eq_true rfl) rfl rfl hc8.1 (CT.imp hc8.2 (fun z9 S9 V9 mc9 ms9 hc10 => ?_))
      refine X_astore_n dX10_readHolder_44 (by decide) rfl ?_
      refine X_iload_n dX10_readHolder_45 rfl ?_
      refine X_invS (as := [vi x1]) (st := []) okX0_holderOfItem dX10_readHolder_46 km_RX10_122 rfl rfl (Nat.le_of_ble_eq_true rfl) (CT.imp hc10 (fun z11 S11 V11 mc11 ms11 hc12 => ?_))
      refine X_istore_n dX10_readHolder_49 (by decide) rfl ?_
      refine X_aload_n dX10_readHolder_50 rfl ?_
      refine X_ifnull dX10_readHolder_51 (tgt := 58) rfl (fun c13 => ?_) (fun c13 => ?_)
      · refine X_iconst dX10_readHolder_58 (by decide) ?_
        refine X_goto dX10_readHolder_59 (tgt := 68) rfl ?_
        exact X_ret (z := 0) dX10_readHolder_68 rfl (fun hv => vok_h hv) (hc12.1 c13)
      · refine X_iload_n dX10_readHolder_54 rfl ?_
        refine X_if_ge dX10_readHolder_55 (tgt := 62) rfl (fun c14 => ?_) (fun c14 => ?_)
        · refine X_aload_n dX10_readHolder_62 rfl ?_
          refine X_getfield (ci := 3) (k := 13) (v := vr (V11 z9 13)) dX10_readHolder_63 rfl (by decide) kf_RX10_139 rfl ((hc12.2 c13).1 c14).1 ?_
          refine X_iload_n dX10_readHolder_66 rfl ?_
          refine X_iaload dX10_readHolder_67 ((hc12.2 c13).1 c14).2.1 ((hc12.2 c13).1 c14).2.2.1 ((hc12.2 c13).1 c14).2.2.2.1 ?_
          exact X_ret (z := (V11 (V11 z9 13) z11)) dX10_readHolder_68 rfl (fun hv => vok_h hv) ((hc12.2 c13).1 c14).2.2.2.2
        · refine X_iconst dX10_readHolder_58 (by decide) ?_
          refine X_goto dX10_readHolder_59 (tgt := 68) rfl ?_
          exact X_ret (z := 0) dX10_readHolder_68 rfl (fun hv => vok_h hv) ((hc12.2 c13).2 c14)
    · refine X_aload_n dX10_readHolder_26 rfl ?_
      refine X_iload_n dX10_readHolder_27 rfl ?_
      refine X_iconst dX10_readHolder_28 (by decide) ?_
      refine X_invV (ci := 10) (as := [vi x1, vi 0]) (st := []) okX10_see dX10_readHolder_29 km_RX10_238 rfl rfl (Nat.le_of_ble_eq_true rfl) rfl rfl (hc5.2 c6).1 (CT.imp (hc5.2 c6).2 (fun z15 S15 V15 mc15 ms15 hc16 => ?_))
      exact X_ret (z := z15) dX10_readHolder_32 rfl (fun hv => vok_h hv) hc16
  · refine X_iconst dX10_readHolder_12 (by decide) ?_
    exact X_ret (z := 0) dX10_readHolder_13 rfl (fun hv => vok_h hv) (hc2.2.2 c3)
theorem qX10_readHolder {l : Launch} {G : GT} {Q : Int → Sh → Mem → Prop} {d : Nat} {S : Sh} {V : Mem} {mc ms : Nat} {x0 x1 : Int} (h : 0 ≤ x0 → inI x1 → XJ l G bX10_readHolder Q d 0 [vr x0, vi x1, vu, vu] [] S V mc ms) : Ct l G bX10_readHolder Q d mc ms [vr x0, vi x1] S V := Ct.of okX10_readHolder.1 trivial (Nat.le_of_ble_eq_true rfl) (fun hv => h (hv _ (List.mem_of_getElem? (i := 0) rfl)) (hv _ (List.mem_of_getElem? (i := 1) rfl)))
set_option maxRecDepth 10000 in
theorem vX10_readEntry_0 {l : Launch} {G : GT} {Q : Int → Sh → Mem → Prop} {d : Nat} {S : Sh} {V : Mem} {mc ms : Nat} {x0 x1 x2 x3 : Int} (h : S.1 x0 = 11 ∧ S.1 (V x0 0) = 1 ∧ CT l G bX0_enumAt d mc ms [vr (V x0 0), vi x1] S V (fun z1 S1 V1 mc1 ms1 => (z1 ≠ 0 → S1.1 z1 = 4 ∧ CT l G bX3_tableAt d mc1 ms1 [vr z1, vi x2] S1 V1 (fun z4 S4 V4 mc4 ms4 => (z4 = 0 → S4.1 x0 = 11 ∧ CT l G bX10_fail d mc4 ms4 [vr x0, vi 4, vi (-1)] S4 V4 (fun z7 S7 V7 mc7 ms7 => Q 0 S7 V7)) ∧ (¬ (z4 = 0) → (x3 < 0 → S4.1 x0 = 11 ∧ CT l G bX10_fail d mc4 ms4 [vr x0, vi 4, vi (-1)] S4 V4 (fun z10 S10 V10 mc10 ms10 => Q 0 S10 V10)) ∧ (¬ (x3 < 0) → S4.1 z4 = 9 ∧ (x3 < (V4 z4 3) → ((V4 z4 4) ≤ x3 → S4.1 x0 = 11 ∧ CT l G bX10_see d mc4 ms4 [vr x0, vi x1, vi 0] S4 V4 (fun z14 S14 V14 mc14 ms14 => Q z14 S14 V14)) ∧ (¬ ((V4 z4 4) ≤ x3) → S4.1 (V4 z4 2) = 20 ∧ 0 ≤ x3 ∧ x3 < S4.2.1 (V4 z4 2) ∧ Q (V4 (V4 z4 2) x3) S4 V4)) ∧ (¬ (x3 < (V4 z4 3)) → S4.1 x0 = 11 ∧ CT l G bX10_fail d mc4 ms4 [vr x0, vi 4, vi (-1)] S4 V4 (fun z16 S16 V16 mc16 ms16 => Q 0 S16 V16)))))) ∧ (¬ (z1 ≠ 0) → S1.1 x0 = 11 ∧ CT l G bX10_fail d mc1 ms1 [vr x0, vi 4, vi (-1)] S1 V1 (fun z18 S18 V18 mc18 ms18 => Q 0 S18 V18)))) : XJ l G bX10_readEntry Q d 0 [vr x0, vi x1, vi x2, vi x3, vu, vu] [] S V mc ms := by
  refine X_aload_n dX10_readEntry_0 rfl ?_
  refine X_getfield (ci := 10) (k := 0) (v := vr (V x0 0)) dX10_readEntry_1 rfl (by decide) kf_RX10_24 rfl h.1 ?_
  refine X_iload_n dX10_readEntry_4 rfl ?_
  refine X_invV (ci := 0) (as := [vi x1]) (st := []) okX0_enumAt dX10_readEntry_5 km_RX10_114 rfl rfl (Nat.le_of_ble_eq_true rfl) rfl rfl h.2.1 (CT.imp h.2.2 (fun z1 S1 V1 mc1 ms1 hc2 => ?_))
  refine X_astore dX10_readEntry_8 (by decide) rfl ?_
  refine X_aload dX10_readEntry_10 rfl ?_
  refine X_ifnonnull dX10_readEntry_12 (tgt := 19) rfl (fun c3 => ?_) (fun c3 => ?_)
  · refine X_aload dX10_readEntry_19 rfl ?_
    refine X_iload_n dX10_readEntry_21 rfl ?_
    refine X_invV (ci := 3) (as := [vi x2]) (st := []) okX3_tableAt dX10_readEntry_22 km_RX10_241 rfl rfl (Nat.le_of_ble_eq_true rfl) rfl rfl (hc2.1 c3).1 (CT.imp (hc2.1 c3).2 (fun z4 S4 V4 mc4 ms4 hc5 => ?_))
    refine X_astore dX10_readEntry_25 (by decide) rfl ?_
    refine X_aload dX10_readEntry_27 rfl ?_
    refine X_ifnull dX10_readEntry_29 (tgt := 45) rfl (fun c6 => ?_) (fun c6 => ?_)
    · refine X_aload_n dX10_readEntry_45 rfl ?_
      refine X_iconst dX10_readEntry_46 (by decide) ?_
      refine X_iconst dX10_readEntry_47 (by decide) ?_
      refine X_invV (ci := 10) (as := [vi 4, vi (-1)]) (st := []) okX10_fail dX10_readEntry_48 km_RX10_52 rfl rfl (Nat.le_of_ble_eq_true rfl) rfl rfl (hc5.1 c6).1 (CT.imp (hc5.1 c6).2 (fun z7 S7 V7 mc7 ms7 hc8 => ?_))
      refine X_iconst dX10_readEntry_51 (by decide) ?_
      exact X_ret (z := 0) dX10_readEntry_52 rfl (fun hv => vok_h hv) hc8
    · refine X_iload_n dX10_readEntry_32 rfl ?_
      refine X_if_lt dX10_readEntry_33 (tgt := 45) rfl (fun c9 => ?_) (fun c9 => ?_)
      · refine X_aload_n dX10_readEntry_45 rfl ?_
        refine X_iconst dX10_readEntry_46 (by decide) ?_
        refine X_iconst dX10_readEntry_47 (by decide) ?_
        refine X_invV (ci := 10) (as := [vi 4, vi (-1)]) (st := []) okX10_fail dX10_readEntry_48 km_RX10_52 rfl rfl (Nat.le_of_ble_eq_true rfl) rfl rfl ((hc5.2 c6).1 c9).1 (CT.imp ((hc5.2 c6).1 c9).2 (fun z10 S10 V10 mc10 ms10 hc11 => ?_))
        refine X_iconst dX10_readEntry_51 (by decide) ?_
        exact X_ret (z := 0) dX10_readEntry_52 rfl (fun hv => vok_h hv) hc11
      · refine X_iload_n dX10_readEntry_36 rfl ?_
        refine X_aload dX10_readEntry_37 rfl ?_
        refine X_getfield (ci := 8) (k := 3) (v := vi (V4 z4 3)) dX10_readEntry_39 rfl (by decide) kf_RX10_181 rfl ((hc5.2 c6).2 c9).1 ?_
        refine X_icmp_lt dX10_readEntry_42 (tgt := 53) rfl (fun c12 => ?_) (fun c12 => ?_)
        · refine X_iload_n dX10_readEntry_53 rfl ?_
          refine X_aload dX10_readEntry_54 rfl ?_
          refine X_getfield (ci := 8) (k := 4) (v := vi (V4 z4 4)) dX10_readEntry_56 rfl (by decide) kf_RX10_192 rfl ((hc5.2 c6).2 c9).1 ?_
          refine X_icmp_ge dX10_readEntry_59 (tgt := 72) rfl (fun c13 => ?_) (fun c13 => ?_)
          · refine X_aload_n dX10_readEntry_72 rfl ?_
            refine X_iload_n dX10_readEntry_73 rfl ?_
            refine X_iconst dX10_readEntry_74 (by decide) ?_
            refine X_invV (ci := 10) (as := [vi x1, vi 0]) (st := []) okX10_see dX10_readEntry_75 km_RX10_238 rfl rfl (Nat.le_of_ble_eq_true rfl) rfl rfl ((((hc5.2 c6).2 c9).2.1 c12).1 c13).1 (CT.imp ((((hc5.2 c6).2 c9).2.1 c12).1 c13).2 (fun z14 S14 V14 mc14 ms14 hc15 => ?_))
            exact X_ret (z := z14) dX10_readEntry_78 rfl (fun hv => vok_h hv) hc15
          · refine X_aload dX10_readEntry_62 rfl ?_
            refine X_getfield (ci := 8) (k := 2) (v := vr (V4 z4 2)) dX10_readEntry_64 rfl (by decide) kf_RX10_186 rfl ((hc5.2 c6).2 c9).1 ?_
            refine X_iload_n dX10_readEntry_67 rfl ?_
            refine X_iaload dX10_readEntry_68 ((((hc5.2 c6).2 c9).2.1 c12).2 c13).1 ((((hc5.2 c6).2 c9).2.1 c12).2 c13).2.1 ((((hc5.2 c6).2 c9).2.1 c12).2 c13).2.2.1 ?_
            refine X_goto dX10_readEntry_69 (tgt := 78) rfl ?_
            exact X_ret (z := (V4 (V4 z4 2) x3)) dX10_readEntry_78 rfl (fun hv => vok_h hv) ((((hc5.2 c6).2 c9).2.1 c12).2 c13).2.2.2
        · refine X_aload_n dX10_readEntry_45 rfl ?_
          refine X_iconst dX10_readEntry_46 (by decide) ?_
          refine X_iconst dX10_readEntry_47 (by decide) ?_
          refine X_invV (ci := 10) (as := [vi 4, vi (-1)]) (st := []) okX10_fail dX10_readEntry_48 km_RX10_52 rfl rfl (Nat.le_of_ble_eq_true rfl) rfl rfl (((hc5.2 c6).2 c9).2.2 c12).1 (CT.imp (((hc5.2 c6).2 c9).2.2 c12).2 (fun z16 S16 V16 mc16 ms16 hc17 => ?_))
          refine X_iconst dX10_readEntry_51 (by decide) ?_
          exact X_ret (z := 0) dX10_readEntry_52 rfl (fun hv => vok_h hv) hc17
  · refine X_aconst_null dX10_readEntry_15 ?_
    refine X_goto dX10_readEntry_16 (tgt := 25) rfl ?_
    refine X_astore dX10_readEntry_25 (by decide) rfl ?_
    refine X_aload dX10_readEntry_27 rfl ?_
    refine X_ifnull dX10_readEntry_29 (tgt := 45) rfl (fun _ => ?_) (fun c => absurd rfl c)
    refine X_aload_n dX10_readEntry_45 rfl ?_
    refine X_iconst dX10_readEntry_46 (by decide) ?_
    refine X_iconst dX10_readEntry_47 (by decide) ?_
    refine X_invV (ci := 10) (as := [vi 4, vi (-1)]) (st := []) okX10_fail dX10_readEntry_48 km_RX10_52 rfl rfl (Nat.le_of_ble_eq_true rfl) rfl rfl (hc2.2 c3).1 (CT.imp (hc2.2 c3).2 (fun z18 S18 V18 mc18 ms18 hc19 => ?_))
    refine X_iconst dX10_readEntry_51 (by decide) ?_
    exact X_ret (z := 0) dX10_readEntry_52 rfl (fun hv => vok_h hv) hc19
theorem qX10_readEntry {l : Launch} {G : GT} {Q : Int → Sh → Mem → Prop} {d : Nat} {S : Sh} {V : Mem} {mc ms : Nat} {x0 x1 x2 x3 : Int} (h : 0 ≤ x0 → inI x1 → inI x2 → inI x3 → XJ l G bX10_readEntry Q d 0 [vr x0, vi x1, vi x2, vi x3, vu, vu] [] S V mc ms) : Ct l G bX10_readEntry Q d mc ms [vr x0, vi x1, vi x2, vi x3] S V := Ct.of okX10_readEntry.1 trivial (Nat.le_of_ble_eq_true rfl) (fun hv => h (hv _ (List.mem_of_getElem? (i := 0) rfl)) (hv _ (List.mem_of_getElem? (i := 1) rfl)) (hv _ (List.mem_of_getElem? (i := 2) rfl)) (hv _ (List.mem_of_getElem? (i := 3) rfl)))
set_option maxRecDepth 10000 in
theorem vX10_see_0 {l : Launch} {G : GT} {Q : Int → Sh → Mem → Prop} {d : Nat} {S : Sh} {V : Mem} {mc ms : Nat} {x0 x1 x2 : Int} (h : S.1 x0 = 11 ∧ ((V x0 5) ≤ 0 → Q x2 S V) ∧ (¬ ((V x0 5) ≤ 0) → -2147483648 ≤ (V x0 5) - 1 ∧ (V x0 5) - 1 ≤ 2147483647 ∧ S.1 (V x0 4) = 20 ∧ 0 ≤ ((V x0 5) - 1) ∧ ((V x0 5) - 1) < S.2.1 (V x0 4) ∧ S.1 (V x0 0) = 1 ∧ CT l G bX0_noteSeen d mc ms [vr (V x0 0), vi (V (V x0 4) ((V x0 5) - 1)), vi x1] S V (fun z2 S2 V2 mc2 ms2 => Q x2 S2 V2))) : XJ l G bX10_see Q d 0 [vr x0, vi x1, vi x2] [] S V mc ms := by
  refine X_aload_n dX10_see_0 rfl ?_
  refine X_getfield (ci := 10) (k := 5) (v := vi (V x0 5)) dX10_see_1 rfl (by decide) kf_RX10_36 rfl h.1 ?_
  refine X_if_le dX10_see_4 (tgt := 26) rfl (fun c1 => ?_) (fun c1 => ?_)
  · refine X_iload_n dX10_see_26 rfl ?_
    exact X_ret (z := x2) dX10_see_27 rfl (fun hv => vok_h hv) (h.2.1 c1)
  · refine X_aload_n dX10_see_7 rfl ?_
    refine X_getfield (ci := 10) (k := 0) (v := vr (V x0 0)) dX10_see_8 rfl (by decide) kf_RX10_24 rfl h.1 ?_
    refine X_aload_n dX10_see_11 rfl ?_
    refine X_getfield (ci := 10) (k := 4) (v := vr (V x0 4)) dX10_see_12 rfl (by decide) kf_RX10_15 rfl h.1 ?_
    refine X_aload_n dX10_see_15 rfl ?_
    refine X_getfield (ci := 10) (k := 5) (v := vi (V x0 5)) dX10_see_16 rfl (by decide) kf_RX10_36 rfl h.1 ?_
    refine X_iconst dX10_see_19 (by decide) ?_
    refine X_isubN dX10_see_20 (h.2.2 c1).1 (h.2.2 c1).2.1 ?_
    refine X_iaload dX10_see_21 (h.2.2 c1).2.2.1 (h.2.2 c1).2.2.2.1 (h.2.2 c1).2.2.2.2.1 ?_
    refine X_iload_n dX10_see_22 rfl ?_
    refine X_invV (ci := 0) (as := [vi (V (V x0 4) ((V x0 5) - 1)), vi x1]) (st := []) okX0_noteSeen dX10_see_23 km_RX10_245 rfl rfl (Nat.le_of_ble_eq_true rfl) rfl rfl (h.2.2 c1).2.2.2.2.2.1 (CT.imp (h.2.2 c1).2.2.2.2.2.2 (fun z2 S2 V2 mc2 ms2 hc3 => ?_))
    refine X_iload_n dX10_see_26 rfl ?_
    exact X_ret (z := x2) dX10_see_27 rfl (fun hv => vok_h hv) hc3
theorem qX10_see {l : Launch} {G : GT} {Q : Int → Sh → Mem → Prop} {d : Nat} {S : Sh} {V : Mem} {mc ms : Nat} {x0 x1 x2 : Int} (h : 0 ≤ x0 → inI x1 → inI x2 → XJ l G bX10_see Q d 0 [vr x0, vi x1, vi x2] [] S V mc ms) : Ct l G bX10_see Q d mc ms [vr x0, vi x1, vi x2] S V := Ct.of okX10_see.1 trivial (Nat.le_of_ble_eq_true rfl) (fun hv => h (hv _ (List.mem_of_getElem? (i := 0) rfl)) (hv _ (List.mem_of_getElem? (i := 1) rfl)) (hv _ (List.mem_of_getElem? (i := 2) rfl)))
set_option maxRecDepth 10000 in
theorem vX10_push_0 {l : Launch} {G : GT} {Q : Int → Sh → Mem → Prop} {d : Nat} {S : Sh} {V : Mem} {mc ms : Nat} {x0 x1 : Int} (h : S.1 x0 = 11 ∧ (1000 ≤ (V x0 3) → Q 0 S V) ∧ (¬ (1000 ≤ (V x0 3)) → S.1 (V x0 2) = 20 ∧ 0 ≤ (V x0 3) ∧ (V x0 3) < S.2.1 (V x0 2) ∧ -2147483648 ≤ (V x0 3) + 1 ∧ (V x0 3) + 1 ≤ 2147483647 ∧ Q 0 S (up (up V (V x0 2) (V x0 3) x1) x0 3 ((V x0 3) + 1)))) : XJ l G bX10_push Q d 0 [vr x0, vi x1] [] S V mc ms := by
  refine X_aload_n dX10_push_0 rfl ?_
  refine X_getfield (ci := 10) (k := 3) (v := vi (V x0 3)) dX10_push_1 rfl (by decide) kf_RX10_32 rfl h.1 ?_
  refine X_sipush dX10_push_4 (by decide) (by decide) ?_
  refine X_icmp_ge dX10_push_7 (tgt := 30) rfl (fun c1 => ?_) (fun c1 => ?_)
  · exact X_ret (z := 0) dX10_push_30 rfl (fun _ => trivial) (h.2.1 c1)
  · refine X_aload_n dX10_push_10 rfl ?_
    refine X_getfield (ci := 10) (k := 2) (v := vr (V x0 2)) dX10_push_11 rfl (by decide) kf_RX10_11 rfl h.1 ?_
    refine X_aload_n dX10_push_14 rfl ?_
    refine X_getfield (ci := 10) (k := 3) (v := vi (V x0 3)) dX10_push_15 rfl (by decide) kf_RX10_32 rfl h.1 ?_
    refine X_iload_n dX10_push_18 rfl ?_
    refine X_iastore dX10_push_19 (h.2.2 c1).1 (h.2.2 c1).2.1 (h.2.2 c1).2.2.1 ?_
    refine X_aload_n dX10_push_20 rfl ?_
    refine X_dup dX10_push_21 (rv_cat _) ?_
    refine X_getfield (ci := 10) (k := 3) (v := vi (V x0 3)) dX10_push_22 rfl (by decide) kf_RX10_32 (congrArg vi (up_ne (Or.inl (tag_ne h.1 (h.2.2 c1).1 (by decide))))) h.1 ?_
    refine X_iconst dX10_push_25 (by decide) ?_
    refine X_iaddN dX10_push_26 (h.2.2 c1).2.2.2.1 (h.2.2 c1).2.2.2.2.1 ?_
    refine X_putfield (ci := 10) (k := 3) (z := ((V x0 3) + 1)) dX10_push_27 rfl (by decide) kf_RX10_32 (Or.inl rfl) (Or.inl rfl) rfl (fun hv => hv) h.1 ?_
    exact X_ret (z := 0) dX10_push_30 rfl (fun _ => trivial) (h.2.2 c1).2.2.2.2.2
theorem qX10_push {l : Launch} {G : GT} {Q : Int → Sh → Mem → Prop} {d : Nat} {S : Sh} {V : Mem} {mc ms : Nat} {x0 x1 : Int} (h : 0 ≤ x0 → inI x1 → XJ l G bX10_push Q d 0 [vr x0, vi x1] [] S V mc ms) : Ct l G bX10_push Q d mc ms [vr x0, vi x1] S V := Ct.of okX10_push.1 trivial (Nat.le_of_ble_eq_true rfl) (fun hv => h (hv _ (List.mem_of_getElem? (i := 0) rfl)) (hv _ (List.mem_of_getElem? (i := 1) rfl)))
set_option maxRecDepth 10000 in
theorem vX10_pop_0 {l : Launch} {G : GT} {Q : Int → Sh → Mem → Prop} {d : Nat} {S : Sh} {V : Mem} {mc ms : Nat} {x0 : Int} (h : S.1 x0 = 11 ∧ (0 < (V x0 3) → -2147483648 ≤ (V x0 3) - 1 ∧ (V x0 3) - 1 ≤ 2147483647 ∧ S.1 (V x0 2) = 20 ∧ 0 ≤ ((V x0 3) - 1) ∧ ((V x0 3) - 1) < S.2.1 (V x0 2) ∧ Q (V (V x0 2) ((V x0 3) - 1)) S (up V x0 3 ((V x0 3) - 1))) ∧ (¬ (0 < (V x0 3)) → Q 0 S V)) : XJ l G bX10_pop Q d 0 [vr x0] [] S V mc ms := by
  refine X_aload_n dX10_pop_0 rfl ?_
  refine X_getfield (ci := 10) (k := 3) (v := vi (V x0 3)) dX10_pop_1 rfl (by decide) kf_RX10_32 rfl h.1 ?_
  refine X_if_gt dX10_pop_4 (tgt := 9) rfl (fun c1 => ?_) (fun c1 => ?_)
  · refine X_aload_n dX10_pop_9 rfl ?_
    refine X_dup dX10_pop_10 (rv_cat _) ?_
    refine X_getfield (ci := 10) (k := 3) (v := vi (V x0 3)) dX10_pop_11 rfl (by decide) kf_RX10_32 rfl h.1 ?_
    refine X_iconst dX10_pop_14 (by decide) ?_
    refine X_isubN dX10_pop_15 (h.2.1 c1).1 (h.2.1 c1).2.1 ?_
    refine X_putfield (ci := 10) (k := 3) (z := ((V x0 3) - 1)) dX10_pop_16 rfl (by decide) kf_RX10_32 (Or.inl rfl) (Or.inl rfl) rfl (fun hv => hv) h.1 ?_
    refine X_aload_n dX10_pop_19 rfl ?_
    refine X_getfield (ci := 10) (k := 2) (v := vr (V x0 2)) dX10_pop_20 rfl (by decide) kf_RX10_11 (congrArg vr (up_ne (Or.inr (by decide)))) h.1 ?_
    refine X_aload_n dX10_pop_23 rfl ?_
    refine X_getfield (ci := 10) (k := 3) (v := vi ((V x0 3) - 1)) dX10_pop_24 rfl (by decide) kf_RX10_32 (congrArg vi up_eq) h.1 ?_
    refine X_iaload dX10_pop_27 (h.2.1 c1).2.2.1 (h.2.1 c1).2.2.2.1 (h.2.1 c1).2.2.2.2.1 ?_
    refine X_top (v := vi (V (V x0 2) ((V x0 3) - 1))) (congrArg vi (up_ne (Or.inl (tag_ne (h.2.1 c1).2.2.1 h.1 (by decide))))) ?_
    exact X_ret (z := (V (V x0 2) ((V x0 3) - 1))) dX10_pop_28 rfl (fun hv => vok_h hv) (h.2.1 c1).2.2.2.2.2
  · refine X_iconst dX10_pop_7 (by decide) ?_
    exact X_ret (z := 0) dX10_pop_8 rfl (fun hv => vok_h hv) (h.2.2 c1)
theorem qX10_pop {l : Launch} {G : GT} {Q : Int → Sh → Mem → Prop} {d : Nat} {S : Sh} {V : Mem} {mc ms : Nat} {x0 : Int} (h : 0 ≤ x0 → XJ l G bX10_pop Q d 0 [vr x0] [] S V mc ms) : Ct l G bX10_pop Q d mc ms [vr x0] S V := Ct.of okX10_pop.1 trivial (Nat.le_of_ble_eq_true rfl) (fun hv => h (hv _ (List.mem_of_getElem? (i := 0) rfl)))
