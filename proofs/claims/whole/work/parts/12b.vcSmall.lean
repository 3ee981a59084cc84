set_option maxRecDepth 10000 in
theorem vX0_init_0 {l : Launch} {G : GT} {Q : Int → Sh → Mem → Prop} {d : Nat} {S : Sh} {V : Mem} {mc ms : Nat} {x0 : Int} (h : x0 ≠ 0 ∧ 1 ≤ d ∧ 0 ≤ (12 : Int) ∧ (12 : Int) ≤ 60000 ∧ 1 ≤ mc ∧ (12 : Int).toNat ≤ ms ∧ (∀ (S1 : Sh) (V1 : Mem) (r1 : Int) (mc1 ms1 : Nat), r1 = S.2.2 + 1 → S1 = nw S 33 12 → V1 = clr V r1 → mc1 = mc - 1 → ms1 = ms - (12 : Int).toNat → S1.1 x0 = 1 ∧ Q 0 S1 (up V1 x0 0 r1))) : XJ l G bX0_init Q d 0 [vr x0] [] S V mc ms := by
  refine X_aload_n dX0_init_0 rfl ?_
  refine X_objInit dX0_init_1 ⟨km_RX0_3, k_obj⟩ h.1 (Nat.le_of_ble_eq_true rfl) h.2.1 ?_
  refine X_aload_n dX0_init_4 rfl ?_
  refine X_bipush dX0_init_5 (by decide) (by decide) ?_
  refine X_anewarr (t := 33) dX0_init_7 kc_RX0_9 (by decide) rfl (by decide) h.2.2.1 h.2.2.2.1 h.2.2.2.2.1 h.2.2.2.2.2.1 ?_
  generalize hShn2 : nw S 33 12 = S1
  generalize hVhn2 : clr V (S.2.2 + 1) = V1
  generalize hrhn2 : S.2.2 + 1 = r1 at hVhn2 ⊢
  generalize hmhn2 : mc - 1 = mc1
  generalize hkhn2 : ms - (12 : Int).toNat = ms1
  have hn2 := h.2.2.2.2.2.2 S1 V1 r1 mc1 ms1 hrhn2.symm hShn2.symm hVhn2.symm hmhn2.symm hkhn2.symm
  refine X_putfield (ci := 0) (k := 0) (z := r1) dX0_init_10 rfl (by decide) kf_RX0_11 (Or.inr (Or.inr (Or.inr (Or.inr ⟨_, rfl⟩)))) (Or.inr ⟨rfl, rfl, rfl⟩) rfl (fun hv => hv) hn2.1 ?_
  exact X_ret (z := 0) dX0_init_13 rfl (fun _ => trivial) hn2.2
theorem qX0_init {l : Launch} {G : GT} {Q : Int → Sh → Mem → Prop} {d : Nat} {S : Sh} {V : Mem} {mc ms : Nat} {x0 : Int} (h : 0 ≤ x0 → XJ l G bX0_init Q d 0 [vr x0] [] S V mc ms) : Ct l G bX0_init Q d mc ms [vr x0] S V := Ct.of okX0_init.1 trivial (Nat.le_of_ble_eq_true rfl) (fun hv => h (hv _ (List.mem_of_getElem? (i := 0) rfl)))
set_option maxRecDepth 10000 in
theorem vX0_keepEnum_0 {l : Launch} {G : GT} {Q : Int → Sh → Mem → Prop} {d : Nat} {S : Sh} {V : Mem} {mc ms : Nat} {x0 x1 : Int} (h : S.1 x0 = 1 ∧ (12 ≤ (V x0 1) → Q 0 S V) ∧ (¬ (12 ≤ (V x0 1)) → S.1 (V x0 0) = 33 ∧ S.1 x1 = 4 ∧ 0 ≤ (V x0 1) ∧ (V x0 1) < S.2.1 (V x0 0) ∧ -2147483648 ≤ (V x0 1) + 1 ∧ (V x0 1) + 1 ≤ 2147483647 ∧ Q 0 S (up (up V (V x0 0) (V x0 1) x1) x0 1 ((V x0 1) + 1)))) : XJ l G bX0_keepEnum Q d 0 [vr x0, vr x1] [] S V mc ms := by
  refine X_aload_n dX0_keepEnum_0 rfl ?_
  refine X_getfield (ci := 0) (k := 1) (v := vi (V x0 1)) dX0_keepEnum_1 rfl (by decide) kf_RX0_17 rfl h.1 ?_
  refine X_bipush dX0_keepEnum_4 (by decide) (by decide) ?_
  refine X_icmp_ge dX0_keepEnum_6 (tgt := 29) rfl (fun c1 => ?_) (fun c1 => ?_)
  · exact X_ret (z := 0) dX0_keepEnum_29 rfl (fun _ => trivial) (h.2.1 c1)
  · refine X_aload_n dX0_keepEnum_9 rfl ?_
    refine X_getfield (ci := 0) (k := 0) (v := vr (V x0 0)) dX0_keepEnum_10 rfl (by decide) kf_RX0_11 rfl h.1 ?_
    refine X_aload_n dX0_keepEnum_13 rfl ?_
    refine X_getfield (ci := 0) (k := 1) (v := vi (V x0 1)) dX0_keepEnum_14 rfl (by decide) kf_RX0_17 rfl h.1 ?_
    refine X_aload_n dX0_keepEnum_17 rfl ?_
    refine X_aastore (ci := 3) (t := 33) rfl dX0_keepEnum_18 (by decide) rfl (h.2.2 c1).1 (h.2.2 c1).2.1 (h.2.2 c1).2.2.1 (h.2.2 c1).2.2.2.1 ?_
    refine X_aload_n dX0_keepEnum_19 rfl ?_
    refine X_dup dX0_keepEnum_20 (rv_cat _) ?_
    refine X_getfield (ci := 0) (k := 1) (v := vi (V x0 1)) dX0_keepEnum_21 rfl (by decide) kf_RX0_17 (congrArg vi (up_ne (Or.inl (tag_ne h.1 (h.2.2 c1).1 (by decide))))) h.1 ?_
    refine X_iconst dX0_keepEnum_24 (by decide) ?_
    refine X_iaddN dX0_keepEnum_25 (h.2.2 c1).2.2.2.2.1 (h.2.2 c1).2.2.2.2.2.1 ?_
    refine X_putfield (ci := 0) (k := 1) (z := ((V x0 1) + 1)) dX0_keepEnum_26 rfl (by decide) kf_RX0_17 (Or.inl rfl) (Or.inl rfl) rfl (fun hv => hv) h.1 ?_
    exact X_ret (z := 0) dX0_keepEnum_29 rfl (fun _ => trivial) (h.2.2 c1).2.2.2.2.2.2
theorem qX0_keepEnum {l : Launch} {G : GT} {Q : Int → Sh → Mem → Prop} {d : Nat} {S : Sh} {V : Mem} {mc ms : Nat} {x0 x1 : Int} (h : 0 ≤ x0 → 0 ≤ x1 → XJ l G bX0_keepEnum Q d 0 [vr x0, vr x1] [] S V mc ms) : Ct l G bX0_keepEnum Q d mc ms [vr x0, vr x1] S V := Ct.of okX0_keepEnum.1 trivial (Nat.le_of_ble_eq_true rfl) (fun hv => h (hv _ (List.mem_of_getElem? (i := 0) rfl)) (hv _ (List.mem_of_getElem? (i := 1) rfl)))
set_option maxRecDepth 10000 in
theorem vX0_settle_0 {l : Launch} {G : GT} {Q : Int → Sh → Mem → Prop} {d : Nat} {S : Sh} {V : Mem} {mc ms : Nat} {x0 x1 : Int} (h : S.1 x0 = 1 ∧ 0 ≤ (148 : Int) ∧ (148 : Int) ≤ 60000 ∧ 1 ≤ mc ∧ (148 : Int).toNat ≤ ms ∧ (∀ (S1 : Sh) (V1 : Mem) (r1 : Int) (mc1 ms1 : Nat), r1 = S.2.2 + 1 → S1 = nw S 20 148 → V1 = clr (up V x0 3 x1) r1 → mc1 = mc - 1 → ms1 = ms - (148 : Int).toNat → S1.1 x0 = 1 ∧ 0 ≤ (60 : Int) ∧ (60 : Int) ≤ 60000 ∧ 1 ≤ mc1 ∧ (60 : Int).toNat ≤ ms1 ∧ (∀ (S3 : Sh) (V3 : Mem) (r3 : Int) (mc3 ms3 : Nat), r3 = S1.2.2 + 1 → S3 = nw S1 20 60 → V3 = clr (up V1 x0 4 r1) r3 → mc3 = mc1 - 1 → ms3 = ms1 - (60 : Int).toNat → S3.1 x0 = 1 ∧ S3.1 x1 = 2 ∧ 0 ≤ (V3 x1 2) ∧ (V3 x1 2) ≤ 60000 ∧ 1 ≤ mc3 ∧ (V3 x1 2).toNat ≤ ms3 ∧ (∀ (S5 : Sh) (V5 : Mem) (r5 : Int) (mc5 ms5 : Nat), r5 = S3.2.2 + 1 → S5 = nw S3 20 (V3 x1 2) → V5 = clr (up V3 x0 5 r3) r5 → mc5 = mc3 - 1 → ms5 = ms3 - (V3 x1 2).toNat → S5.1 x0 = 1 ∧ S5.1 x1 = 2 ∧ 0 ≤ (V5 x1 2) ∧ (V5 x1 2) ≤ 60000 ∧ 1 ≤ mc5 ∧ (V5 x1 2).toNat ≤ ms5 ∧ (∀ (S7 : Sh) (V7 : Mem) (r7 : Int) (mc7 ms7 : Nat), r7 = S5.2.2 + 1 → S7 = nw S5 20 (V5 x1 2) → V7 = clr (up V5 x0 7 r5) r7 → mc7 = mc5 - 1 → ms7 = ms5 - (V5 x1 2).toNat → S7.1 x0 = 1 ∧ Q 0 S7 (up V7 x0 8 r7)))))) : XJ l G bX0_settle Q d 0 [vr x0, vr x1] [] S V mc ms := by
  refine X_aload_n dX0_settle_0 rfl ?_
  refine X_aload_n dX0_settle_1 rfl ?_
  refine X_putfield (ci := 0) (k := 3) (z := x1) dX0_settle_2 rfl (by decide) kf_RX0_21 (Or.inr (Or.inr (Or.inr (Or.inl ⟨_, rfl⟩)))) (Or.inl rfl) rfl (fun hv => hv) h.1 ?_
  refine X_aload_n dX0_settle_5 rfl ?_
  refine X_sipush dX0_settle_6 (by decide) (by decide) ?_
  refine X_newarr (t := 20) dX0_settle_9 k_arr.1 rfl (by decide) (by decide) h.2.1 h.2.2.1 h.2.2.2.1 h.2.2.2.2.1 ?_
  generalize hShn2 : nw S 20 148 = S1
  generalize hVhn2 : clr (up V x0 3 x1) (S.2.2 + 1) = V1
  generalize hrhn2 : S.2.2 + 1 = r1 at hVhn2 ⊢
  generalize hmhn2 : mc - 1 = mc1
  generalize hkhn2 : ms - (148 : Int).toNat = ms1
  have hn2 := h.2.2.2.2.2 S1 V1 r1 mc1 ms1 hrhn2.symm hShn2.symm hVhn2.symm hmhn2.symm hkhn2.symm
  refine X_putfield (ci := 0) (k := 4) (z := r1) dX0_settle_11 rfl (by decide) kf_RX0_25 (Or.inr (Or.inr (Or.inr (Or.inr ⟨_, rfl⟩)))) (Or.inl rfl) rfl (fun hv => hv) hn2.1 ?_
  refine X_aload_n dX0_settle_14 rfl ?_
  refine X_bipush dX0_settle_15 (by decide) (by decide) ?_
  refine X_newarr (t := 20) dX0_settle_17 k_arr.1 rfl (by decide) (by decide) hn2.2.1 hn2.2.2.1 hn2.2.2.2.1 hn2.2.2.2.2.1 ?_
  generalize hShn4 : nw S1 20 60 = S3
  generalize hVhn4 : clr (up V1 x0 4 r1) (S1.2.2 + 1) = V3
  generalize hrhn4 : S1.2.2 + 1 = r3 at hVhn4 ⊢
  generalize hmhn4 : mc1 - 1 = mc3
  generalize hkhn4 : ms1 - (60 : Int).toNat = ms3
  have hn4 := hn2.2.2.2.2.2 S3 V3 r3 mc3 ms3 hrhn4.symm hShn4.symm hVhn4.symm hmhn4.symm hkhn4.symm
  refine X_putfield (ci := 0) (k := 5) (z := r3) dX0_settle_19 rfl (by decide) kf_RX0_29 (Or.inr (Or.inr (Or.inr (Or.inr ⟨_, rfl⟩)))) (Or.inl rfl) rfl (fun hv => hv) hn4.1 ?_
  refine X_aload_n dX0_settle_22 rfl ?_
  refine X_aload_n dX0_settle_23 rfl ?_
  refine X_getfield (ci := 1) (k := 2) (v := vi (V3 x1 2)) dX0_settle_24 rfl (by decide) kf_RX0_32 (congrArg vi (up_ne (Or.inl (tag_ne hn4.2.1 hn4.1 (by decide))))) hn4.2.1 ?_
  refine X_newarr (t := 20) dX0_settle_27 k_arr.1 rfl (by decide) (by decide) hn4.2.2.1 hn4.2.2.2.1 hn4.2.2.2.2.1 hn4.2.2.2.2.2.1 ?_
  generalize hShn6 : nw S3 20 (V3 x1 2) = S5
  generalize hVhn6 : clr (up V3 x0 5 r3) (S3.2.2 + 1) = V5
  generalize hrhn6 : S3.2.2 + 1 = r5 at hVhn6 ⊢
  generalize hmhn6 : mc3 - 1 = mc5
  generalize hkhn6 : ms3 - (V3 x1 2).toNat = ms5
  have hn6 := hn4.2.2.2.2.2.2 S5 V5 r5 mc5 ms5 hrhn6.symm hShn6.symm hVhn6.symm hmhn6.symm hkhn6.symm
  refine X_putfield (ci := 0) (k := 7) (z := r5) dX0_settle_29 rfl (by decide) kf_RX0_37 (Or.inr (Or.inr (Or.inr (Or.inr ⟨_, rfl⟩)))) (Or.inl rfl) rfl (fun hv => hv) hn6.1 ?_
  refine X_aload_n dX0_settle_32 rfl ?_
  refine X_aload_n dX0_settle_33 rfl ?_
  refine X_getfield (ci := 1) (k := 2) (v := vi (V5 x1 2)) dX0_settle_34 rfl (by decide) kf_RX0_32 (congrArg vi (up_ne (Or.inl (tag_ne hn6.2.1 hn6.1 (by decide))))) hn6.2.1 ?_
  refine X_newarr (t := 20) dX0_settle_37 k_arr.1 rfl (by decide) (by decide) hn6.2.2.1 hn6.2.2.2.1 hn6.2.2.2.2.1 hn6.2.2.2.2.2.1 ?_
  generalize hShn8 : nw S5 20 (V5 x1 2) = S7
  generalize hVhn8 : clr (up V5 x0 7 r5) (S5.2.2 + 1) = V7
  generalize hrhn8 : S5.2.2 + 1 = r7 at hVhn8 ⊢
  generalize hmhn8 : mc5 - 1 = mc7
  generalize hkhn8 : ms5 - (V5 x1 2).toNat = ms7
  have hn8 := hn6.2.2.2.2.2.2 S7 V7 r7 mc7 ms7 hrhn8.symm hShn8.symm hVhn8.symm hmhn8.symm hkhn8.symm
  refine X_putfield (ci := 0) (k := 8) (z := r7) dX0_settle_39 rfl (by decide) kf_RX0_40 (Or.inr (Or.inr (Or.inr (Or.inr ⟨_, rfl⟩)))) (Or.inl rfl) rfl (fun hv => hv) hn8.1 ?_
  exact X_ret (z := 0) dX0_settle_42 rfl (fun _ => trivial) hn8.2
theorem qX0_settle {l : Launch} {G : GT} {Q : Int → Sh → Mem → Prop} {d : Nat} {S : Sh} {V : Mem} {mc ms : Nat} {x0 x1 : Int} (h : 0 ≤ x0 → 0 ≤ x1 → XJ l G bX0_settle Q d 0 [vr x0, vr x1] [] S V mc ms) : Ct l G bX0_settle Q d mc ms [vr x0, vr x1] S V := Ct.of okX0_settle.1 trivial (Nat.le_of_ble_eq_true rfl) (fun hv => h (hv _ (List.mem_of_getElem? (i := 0) rfl)) (hv _ (List.mem_of_getElem? (i := 1) rfl)))
set_option maxRecDepth 10000 in
theorem vX0_enumAt_0 {l : Launch} {G : GT} {Q : Int → Sh → Mem → Prop} {d : Nat} {S : Sh} {V : Mem} {mc ms : Nat} {x0 x1 : Int} (h : (x1 < 0 → Q 0 S V) ∧ (¬ (x1 < 0) → S.1 x0 = 1 ∧ (x1 < (V x0 1) → S.1 (V x0 0) = 33 ∧ 0 ≤ x1 ∧ x1 < S.2.1 (V x0 0) ∧ Q (V (V x0 0) x1) S V) ∧ (¬ (x1 < (V x0 1)) → Q 0 S V))) : XJ l G bX0_enumAt Q d 0 [vr x0, vi x1] [] S V mc ms := by
  refine X_iload_n dX0_enumAt_0 rfl ?_
  refine X_if_lt dX0_enumAt_1 (tgt := 12) rfl (fun c1 => ?_) (fun c1 => ?_)
  · refine X_aconst_null dX0_enumAt_12 ?_
    refine X_goto dX0_enumAt_13 (tgt := 22) rfl ?_
    exact X_ret (z := 0) dX0_enumAt_22 rfl (fun hv => vok_h hv) (h.1 c1)
  · refine X_iload_n dX0_enumAt_4 rfl ?_
    refine X_aload_n dX0_enumAt_5 rfl ?_
    refine X_getfield (ci := 0) (k := 1) (v := vi (V x0 1)) dX0_enumAt_6 rfl (by decide) kf_RX0_17 rfl (h.2 c1).1 ?_
    refine X_icmp_lt dX0_enumAt_9 (tgt := 16) rfl (fun c2 => ?_) (fun c2 => ?_)
    · refine X_aload_n dX0_enumAt_16 rfl ?_
      refine X_getfield (ci := 0) (k := 0) (v := vr (V x0 0)) dX0_enumAt_17 rfl (by decide) kf_RX0_11 rfl (h.2 c1).1 ?_
      refine X_iload_n dX0_enumAt_20 rfl ?_
      refine X_aaload33 dX0_enumAt_21 ((h.2 c1).2.1 c2).1 ((h.2 c1).2.1 c2).2.1 ((h.2 c1).2.1 c2).2.2.1 ?_
      exact X_ret (z := (V (V x0 0) x1)) dX0_enumAt_22 rfl (fun hv => vok_h hv) ((h.2 c1).2.1 c2).2.2.2
    · refine X_aconst_null dX0_enumAt_12 ?_
      refine X_goto dX0_enumAt_13 (tgt := 22) rfl ?_
      exact X_ret (z := 0) dX0_enumAt_22 rfl (fun hv => vok_h hv) ((h.2 c1).2.2 c2)
theorem qX0_enumAt {l : Launch} {G : GT} {Q : Int → Sh → Mem → Prop} {d : Nat} {S : Sh} {V : Mem} {mc ms : Nat} {x0 x1 : Int} (h : 0 ≤ x0 → inI x1 → XJ l G bX0_enumAt Q d 0 [vr x0, vi x1] [] S V mc ms) : Ct l G bX0_enumAt Q d mc ms [vr x0, vi x1] S V := Ct.of okX0_enumAt.1 trivial (Nat.le_of_ble_eq_true rfl) (fun hv => h (hv _ (List.mem_of_getElem? (i := 0) rfl)) (hv _ (List.mem_of_getElem? (i := 1) rfl)))
set_option maxRecDepth 10000 in
theorem vX0_findEnum_0 {l : Launch} {G : GT} {Q : Int → Sh → Mem → Prop} {d : Nat} {S : Sh} {V : Mem} {mc ms : Nat} {x0 x1 : Int} (h : XJ l G bX0_findEnum Q d 2 [vr x0, vl x1, vu, vi 0] [] S V mc ms) : XJ l G bX0_findEnum Q d 0 [vr x0, vl x1, vu, vu] [] S V mc ms := by
  refine X_iconst dX0_findEnum_0 (by decide) ?_
  refine X_istore_n dX0_findEnum_1 (by decide) rfl ?_
  exact h
set_option maxRecDepth 10000 in
theorem vX0_findEnum_2 {l : Launch} {G : GT} {Q : Int → Sh → Mem → Prop} {d : Nat} {S : Sh} {V : Mem} {mc ms : Nat} {x0 x1 x3 : Int} (h : S.1 x0 = 1 ∧ ((V x0 1) ≤ x3 → Q (-1) S V) ∧ (¬ ((V x0 1) ≤ x3) → S.1 (V x0 0) = 33 ∧ 0 ≤ x3 ∧ x3 < S.2.1 (V x0 0) ∧ S.1 (V (V x0 0) x3) = 4 ∧ ((V (V (V x0 0) x3) 0) ≠ x1 → -2147483648 ≤ x3 + 1 ∧ x3 + 1 ≤ 2147483647 ∧ XJ l G bX0_findEnum Q d 2 [vr x0, vl x1, vu, vi (x3 + 1)] [] S V mc ms) ∧ (¬ ((V (V (V x0 0) x3) 0) ≠ x1) → Q x3 S V))) : XJ l G bX0_findEnum Q d 2 [vr x0, vl x1, vu, vi x3] [] S V mc ms := by
  refine X_iload_n dX0_findEnum_2 rfl ?_
  refine X_aload_n dX0_findEnum_3 rfl ?_
  refine X_getfield (ci := 0) (k := 1) (v := vi (V x0 1)) dX0_findEnum_4 rfl (by decide) kf_RX0_17 rfl h.1 ?_
  refine X_icmp_ge dX0_findEnum_7 (tgt := 32) rfl (fun c1 => ?_) (fun c1 => ?_)
  · refine X_iconst dX0_findEnum_32 (by decide) ?_
    exact X_ret (z := (-1)) dX0_findEnum_33 rfl (fun hv => vok_h hv) (h.2.1 c1)
  · refine X_aload_n dX0_findEnum_10 rfl ?_
    refine X_getfield (ci := 0) (k := 0) (v := vr (V x0 0)) dX0_findEnum_11 rfl (by decide) kf_RX0_11 rfl h.1 ?_
    refine X_iload_n dX0_findEnum_14 rfl ?_
    refine X_aaload33 dX0_findEnum_15 (h.2.2 c1).1 (h.2.2 c1).2.1 (h.2.2 c1).2.2.1 ?_
    refine X_getfield (ci := 3) (k := 0) (v := vl (V (V (V x0 0) x3) 0)) dX0_findEnum_16 rfl (by decide) kf_RX0_43 rfl (h.2.2 c1).2.2.2.1 ?_
    refine X_lload_n dX0_findEnum_19 rfl ?_
    refine X_lc_ne dX0_findEnum_20 dX0_findEnum_21 (tgt := 26) rfl (fun c2 => ?_) (fun c2 => ?_)
    · refine X_iincN dX0_findEnum_26 rfl (by decide) rfl (e := x3 + 1) rfl ((h.2.2 c1).2.2.2.2.1 c2).1 ((h.2.2 c1).2.2.2.2.1 c2).2.1 ?_
      refine X_goto dX0_findEnum_29 (tgt := 2) rfl ?_
      exact ((h.2.2 c1).2.2.2.2.1 c2).2.2
    · refine X_iload_n dX0_findEnum_24 rfl ?_
      exact X_ret (z := x3) dX0_findEnum_25 rfl (fun hv => vok_h hv) ((h.2.2 c1).2.2.2.2.2 c2)
theorem qX0_findEnum {l : Launch} {G : GT} {Q : Int → Sh → Mem → Prop} {d : Nat} {S : Sh} {V : Mem} {mc ms : Nat} {x0 x1 : Int} (h : 0 ≤ x0 → inL x1 → XJ l G bX0_findEnum Q d 0 [vr x0, vl x1, vu, vu] [] S V mc ms) : Ct l G bX0_findEnum Q d mc ms [vr x0, vl x1] S V := Ct.of okX0_findEnum.1 trivial (Nat.le_of_ble_eq_true rfl) (fun hv => h (hv _ (List.mem_of_getElem? (i := 0) rfl)) (hv _ (List.mem_of_getElem? (i := 1) rfl)))
set_option maxRecDepth 10000 in
theorem vX0_isHolder_0 {l : Launch} {G : GT} {Q : Int → Sh → Mem → Prop} {d : Nat} {S : Sh} {V : Mem} {mc ms : Nat} {x0 : Int} (h : (x0 < 100 → Q 0 S V) ∧ (¬ (x0 < 100) → Q 1 S V)) : XJ l G bX0_isHolder Q d 0 [vi x0] [] S V mc ms := by
  refine X_iload_n dX0_isHolder_0 rfl ?_
  refine X_bipush dX0_isHolder_1 (by decide) (by decide) ?_
  refine X_icmp_lt dX0_isHolder_3 (tgt := 10) rfl (fun c1 => ?_) (fun c1 => ?_)
  · refine X_iconst dX0_isHolder_10 (by decide) ?_
    exact X_ret (z := 0) dX0_isHolder_11 rfl (fun _ => Or.inl rfl) (h.1 c1)
  · refine X_iconst dX0_isHolder_6 (by decide) ?_
    refine X_goto dX0_isHolder_7 (tgt := 11) rfl ?_
    exact X_ret (z := 1) dX0_isHolder_11 rfl (fun _ => Or.inr rfl) (h.2 c1)
theorem qX0_isHolder {l : Launch} {G : GT} {Q : Int → Sh → Mem → Prop} {d : Nat} {S : Sh} {V : Mem} {mc ms : Nat} {x0 : Int} (h : inI x0 → XJ l G bX0_isHolder Q d 0 [vi x0] [] S V mc ms) : Ct l G bX0_isHolder Q d mc ms [vi x0] S V := Ct.of okX0_isHolder.1 trivial (Nat.le_of_ble_eq_true rfl) (fun hv => h (hv _ (List.mem_of_getElem? (i := 0) rfl)))
set_option maxRecDepth 10000 in
theorem vX0_enumOfItem_0 {l : Launch} {G : GT} {Q : Int → Sh → Mem → Prop} {d : Nat} {S : Sh} {V : Mem} {mc ms : Nat} {x0 : Int} (h : CT l G bX0_isHolder d mc ms [vi x0] S V (fun z1 S1 V1 mc1 ms1 => (z1 = 0 → Q x0 S1 V1) ∧ (¬ (z1 = 0) → -2147483648 ≤ x0 - 100 ∧ x0 - 100 ≤ 2147483647 ∧ Q ((x0 - 100).tdiv 4) S1 V1))) : XJ l G bX0_enumOfItem Q d 0 [vi x0] [] S V mc ms := by
  refine X_iload_n dX0_enumOfItem_0 rfl ?_
  refine X_invS (as := [vi x0]) (st := []) okX0_isHolder dX0_enumOfItem_1 km_RX0_47 rfl rfl (Nat.le_of_ble_eq_true rfl) (CT.imp h (fun z1 S1 V1 mc1 ms1 hc2 => ?_))
  refine X_if_eq dX0_enumOfItem_4 (tgt := 16) rfl (fun c3 => ?_) (fun c3 => ?_)
  · refine X_iload_n dX0_enumOfItem_16 rfl ?_
    exact X_ret (z := x0) dX0_enumOfItem_17 rfl (fun hv => vok_h hv) (hc2.1 c3)
  · refine X_iload_n dX0_enumOfItem_7 rfl ?_
    refine X_bipush dX0_enumOfItem_8 (by decide) (by decide) ?_
    refine X_isubN dX0_enumOfItem_10 (hc2.2 c3).1 (hc2.2 c3).2.1 ?_
    refine X_iconst dX0_enumOfItem_11 (by decide) ?_
    refine X_idivP dX0_enumOfItem_12 (by decide) ?_
    refine X_goto dX0_enumOfItem_13 (tgt := 17) rfl ?_
    exact X_ret (z := ((x0 - 100).tdiv 4)) dX0_enumOfItem_17 rfl (fun hv => vok_h hv) (hc2.2 c3).2.2
theorem qX0_enumOfItem {l : Launch} {G : GT} {Q : Int → Sh → Mem → Prop} {d : Nat} {S : Sh} {V : Mem} {mc ms : Nat} {x0 : Int} (h : inI x0 → XJ l G bX0_enumOfItem Q d 0 [vi x0] [] S V mc ms) : Ct l G bX0_enumOfItem Q d mc ms [vi x0] S V := Ct.of okX0_enumOfItem.1 trivial (Nat.le_of_ble_eq_true rfl) (fun hv => h (hv _ (List.mem_of_getElem? (i := 0) rfl)))
set_option maxRecDepth 10000 in
theorem vX0_holderOfItem_0 {l : Launch} {G : GT} {Q : Int → Sh → Mem → Prop} {d : Nat} {S : Sh} {V : Mem} {mc ms : Nat} {x0 : Int} (h : CT l G bX0_isHolder d mc ms [vi x0] S V (fun z1 S1 V1 mc1 ms1 => (z1 = 0 → Q (-1) S1 V1) ∧ (¬ (z1 = 0) → -2147483648 ≤ x0 - 100 ∧ x0 - 100 ≤ 2147483647 ∧ Q ((x0 - 100).tmod 4) S1 V1))) : XJ l G bX0_holderOfItem Q d 0 [vi x0] [] S V mc ms := by
  refine X_iload_n dX0_holderOfItem_0 rfl ?_
  refine X_invS (as := [vi x0]) (st := []) okX0_isHolder dX0_holderOfItem_1 km_RX0_47 rfl rfl (Nat.le_of_ble_eq_true rfl) (CT.imp h (fun z1 S1 V1 mc1 ms1 hc2 => ?_))
  refine X_if_eq dX0_holderOfItem_4 (tgt := 16) rfl (fun c3 => ?_) (fun c3 => ?_)
  · refine X_iconst dX0_holderOfItem_16 (by decide) ?_
    exact X_ret (z := (-1)) dX0_holderOfItem_17 rfl (fun hv => vok_h hv) (hc2.1 c3)
  · refine X_iload_n dX0_holderOfItem_7 rfl ?_
    refine X_bipush dX0_holderOfItem_8 (by decide) (by decide) ?_
    refine X_isubN dX0_holderOfItem_10 (hc2.2 c3).1 (hc2.2 c3).2.1 ?_
    refine X_iconst dX0_holderOfItem_11 (by decide) ?_
    refine X_iremP dX0_holderOfItem_12 (by decide) ?_
    refine X_goto dX0_holderOfItem_13 (tgt := 17) rfl ?_
    exact X_ret (z := ((x0 - 100).tmod 4)) dX0_holderOfItem_17 rfl (fun hv => vok_h hv) (hc2.2 c3).2.2
theorem qX0_holderOfItem {l : Launch} {G : GT} {Q : Int → Sh → Mem → Prop} {d : Nat} {S : Sh} {V : Mem} {mc ms : Nat} {x0 : Int} (h : inI x0 → XJ l G bX0_holderOfItem Q d 0 [vi x0] [] S V mc ms) : Ct l G bX0_holderOfItem Q d mc ms [vi x0] S V := Ct.of okX0_holderOfItem.1 trivial (Nat.le_of_ble_eq_true rfl) (fun hv => h (hv _ (List.mem_of_getElem? (i := 0) rfl)))
set_option maxRecDepth 10000 in
theorem vX0_hasItem_0 {l : Launch} {G : GT} {Q : Int → Sh → Mem → Prop} {d : Nat} {S : Sh} {V : Mem} {mc ms : Nat} {x0 x1 : Int} (h : CT l G bX0_enumOfItem d mc ms [vi x1] S V (fun z1 S1 V1 mc1 ms1 => S1.1 x0 = 1 ∧ CT l G bX0_enumAt d mc1 ms1 [vr x0, vi z1] S1 V1 (fun z3 S3 V3 mc3 ms3 => (z3 = 0 → Q 0 S3 V3) ∧ (¬ (z3 = 0) → CT l G bX0_holderOfItem d mc3 ms3 [vi x1] S3 V3 (fun z6 S6 V6 mc6 ms6 => S6.1 z3 = 4 ∧ ((V6 z3 14) ≤ z6 → Q 0 S6 V6) ∧ (¬ ((V6 z3 14) ≤ z6) → Q 1 S6 V6)))))) : XJ l G bX0_hasItem Q d 0 [vr x0, vi x1, vu] [] S V mc ms := by
  refine X_aload_n dX0_hasItem_0 rfl ?_
  refine X_iload_n dX0_hasItem_1 rfl ?_
  refine X_invS (as := [vi x1]) (st := [vr x0]) okX0_enumOfItem dX0_hasItem_2 km_RX0_51 rfl rfl (Nat.le_of_ble_eq_true rfl) (CT.imp h (fun z1 S1 V1 mc1 ms1 hc2 => ?_))
  refine X_invV (ci := 0) (as := [vi z1]) (st := []) okX0_enumAt dX0_hasItem_5 km_RX0_55 rfl rfl (Nat.le_of_ble_eq_true rfl) rfl rfl hc2.1 (CT.imp hc2.2 (fun z3 S3 V3 mc3 ms3 hc4 => ?_))
  refine X_astore_n dX0_hasItem_8 (by decide) rfl ?_
  refine X_aload_n dX0_hasItem_9 rfl ?_
  refine X_ifnull dX0_hasItem_10 (tgt := 28) rfl (fun c5 => ?_) (fun c5 => ?_)
  · refine X_iconst dX0_hasItem_28 (by decide) ?_
    exact X_ret (z := 0) dX0_hasItem_29 rfl (fun _ => Or.inl rfl) (hc4.1 c5)
  · refine X_iload_n dX0_hasItem_13 rfl ?_
    refine X_invS (as := [vi x1]) (st := []) okX0_holderOfItem dX0_hasItem_14 km_RX0_59 rfl rfl (Nat.le_of_ble_eq_true rfl) (CT.imp (hc4.2 c5) (fun z6 S6 V6 mc6 ms6 hc7 => ?_))
    refine X_aload_n dX0_hasItem_17 rfl ?_
    refine X_getfield (ci := 3) (k := 14) (v := vi (V6 z3 14)) dX0_hasItem_18 rfl (by decide) kf_RX0_62 rfl hc7.1 ?_
    refine X_icmp_ge dX0_hasItem_21 (tgt := 28) rfl (fun c8 => ?_) (fun c8 => ?_)
    · refine X_iconst dX0_hasItem_28 (by decide) ?_
      exact X_ret (z := 0) dX0_hasItem_29 rfl (fun _ => Or.inl rfl) (hc7.2.1 c8)
    · refine X_iconst dX0_hasItem_24 (by decide) ?_
      refine X_goto dX0_hasItem_25 (tgt := 29) rfl ?_
      exact X_ret (z := 1) dX0_hasItem_29 rfl (fun _ => Or.inr rfl) (hc7.2.2 c8)
theorem qX0_hasItem {l : Launch} {G : GT} {Q : Int → Sh → Mem → Prop} {d : Nat} {S : Sh} {V : Mem} {mc ms : Nat} {x0 x1 : Int} (h : 0 ≤ x0 → inI x1 → XJ l G bX0_hasItem Q d 0 [vr x0, vi x1, vu] [] S V mc ms) : Ct l G bX0_hasItem Q d mc ms [vr x0, vi x1] S V := Ct.of okX0_hasItem.1 trivial (Nat.le_of_ble_eq_true rfl) (fun hv => h (hv _ (List.mem_of_getElem? (i := 0) rfl)) (hv _ (List.mem_of_getElem? (i := 1) rfl)))
set_option maxRecDepth 10000 in
theorem vX0_stateOf_0 {l : Launch} {G : GT} {Q : Int → Sh → Mem → Prop} {d : Nat} {S : Sh} {V : Mem} {mc ms : Nat} {x0 x1 : Int} (h : (x1 < 0 → Q 0 S V) ∧ (¬ (x1 < 0) → (x1 < 148 → S.1 x0 = 1 ∧ S.1 (V x0 4) = 20 ∧ 0 ≤ x1 ∧ x1 < S.2.1 (V x0 4) ∧ Q (V (V x0 4) x1) S V) ∧ (¬ (x1 < 148) → Q 0 S V))) : XJ l G bX0_stateOf Q d 0 [vr x0, vi x1] [] S V mc ms := by
  refine X_iload_n dX0_stateOf_0 rfl ?_
  refine X_if_lt dX0_stateOf_1 (tgt := 11) rfl (fun c1 => ?_) (fun c1 => ?_)
  · refine X_iconst dX0_stateOf_11 (by decide) ?_
    refine X_goto dX0_stateOf_12 (tgt := 21) rfl ?_
    exact X_ret (z := 0) dX0_stateOf_21 rfl (fun hv => vok_h hv) (h.1 c1)
  · refine X_iload_n dX0_stateOf_4 rfl ?_
    refine X_sipush dX0_stateOf_5 (by decide) (by decide) ?_
    refine X_icmp_lt dX0_stateOf_8 (tgt := 15) rfl (fun c2 => ?_) (fun c2 => ?_)
    · refine X_aload_n dX0_stateOf_15 rfl ?_
      refine X_getfield (ci := 0) (k := 4) (v := vr (V x0 4)) dX0_stateOf_16 rfl (by decide) kf_RX0_25 rfl ((h.2 c1).1 c2).1 ?_
      refine X_iload_n dX0_stateOf_19 rfl ?_
      refine X_iaload dX0_stateOf_20 ((h.2 c1).1 c2).2.1 ((h.2 c1).1 c2).2.2.1 ((h.2 c1).1 c2).2.2.2.1 ?_
      exact X_ret (z := (V (V x0 4) x1)) dX0_stateOf_21 rfl (fun hv => vok_h hv) ((h.2 c1).1 c2).2.2.2.2
    · refine X_iconst dX0_stateOf_11 (by decide) ?_
      refine X_goto dX0_stateOf_12 (tgt := 21) rfl ?_
      exact X_ret (z := 0) dX0_stateOf_21 rfl (fun hv => vok_h hv) ((h.2 c1).2 c2)
theorem qX0_stateOf {l : Launch} {G : GT} {Q : Int → Sh → Mem → Prop} {d : Nat} {S : Sh} {V : Mem} {mc ms : Nat} {x0 x1 : Int} (h : 0 ≤ x0 → inI x1 → XJ l G bX0_stateOf Q d 0 [vr x0, vi x1] [] S V mc ms) : Ct l G bX0_stateOf Q d mc ms [vr x0, vi x1] S V := Ct.of okX0_stateOf.1 trivial (Nat.le_of_ble_eq_true rfl) (fun hv => h (hv _ (List.mem_of_getElem? (i := 0) rfl)) (hv _ (List.mem_of_getElem? (i := 1) rfl)))
set_option maxRecDepth 10000 in
theorem vX0_setState_0 {l : Launch} {G : GT} {Q : Int → Sh → Mem → Prop} {d : Nat} {S : Sh} {V : Mem} {mc ms : Nat} {x0 x1 x2 : Int} (h : (x1 < 0 → Q 0 S V) ∧ (¬ (x1 < 0) → (148 ≤ x1 → Q 0 S V) ∧ (¬ (148 ≤ x1) → S.1 x0 = 1 ∧ S.1 (V x0 4) = 20 ∧ 0 ≤ x1 ∧ x1 < S.2.1 (V x0 4) ∧ Q 0 S (up V (V x0 4) x1 x2)))) : XJ l G bX0_setState Q d 0 [vr x0, vi x1, vi x2] [] S V mc ms := by
  refine X_iload_n dX0_setState_0 rfl ?_
  refine X_if_lt dX0_setState_1 (tgt := 18) rfl (fun c1 => ?_) (fun c1 => ?_)
  · exact X_ret (z := 0) dX0_setState_18 rfl (fun _ => trivial) (h.1 c1)
  · refine X_iload_n dX0_setState_4 rfl ?_
    refine X_sipush dX0_setState_5 (by decide) (by decide) ?_
    refine X_icmp_ge dX0_setState_8 (tgt := 18) rfl (fun c2 => ?_) (fun c2 => ?_)
    · exact X_ret (z := 0) dX0_setState_18 rfl (fun _ => trivial) ((h.2 c1).1 c2)
    · refine X_aload_n dX0_setState_11 rfl ?_
      refine X_getfield (ci := 0) (k := 4) (v := vr (V x0 4)) dX0_setState_12 rfl (by decide) kf_RX0_25 rfl ((h.2 c1).2 c2).1 ?_
      refine X_iload_n dX0_setState_15 rfl ?_
      refine X_iload_n dX0_setState_16 rfl ?_
      refine X_iastore dX0_setState_17 ((h.2 c1).2 c2).2.1 ((h.2 c1).2 c2).2.2.1 ((h.2 c1).2 c2).2.2.2.1 ?_
      exact X_ret (z := 0) dX0_setState_18 rfl (fun _ => trivial) ((h.2 c1).2 c2).2.2.2.2
theorem qX0_setState {l : Launch} {G : GT} {Q : Int → Sh → Mem → Prop} {d : Nat} {S : Sh} {V : Mem} {mc ms : Nat} {x0 x1 x2 : Int} (h : 0 ≤ x0 → inI x1 → inI x2 → XJ l G bX0_setState Q d 0 [vr x0, vi x1, vi x2] [] S V mc ms) : Ct l G bX0_setState Q d mc ms [vr x0, vi x1, vi x2] S V := Ct.of okX0_setState.1 trivial (Nat.le_of_ble_eq_true rfl) (fun hv => h (hv _ (List.mem_of_getElem? (i := 0) rfl)) (hv _ (List.mem_of_getElem? (i := 1) rfl)) (hv _ (List.mem_of_getElem? (i := 2) rfl)))
set_option maxRecDepth 10000 in
theorem vX0_noteStart_0 {l : Launch} {G : GT} {Q : Int → Sh → Mem → Prop} {d : Nat} {S : Sh} {V : Mem} {mc ms : Nat} {x0 x1 : Int} (h : S.1 x0 = 1 ∧ S.1 (V x0 5) = 20 ∧ ((S.2.1 (V x0 5)) ≤ (V x0 6) → Q 0 S V) ∧ (¬ ((S.2.1 (V x0 5)) ≤ (V x0 6)) → 0 ≤ (V x0 6) ∧ (V x0 6) < S.2.1 (V x0 5) ∧ -2147483648 ≤ (V x0 6) + 1 ∧ (V x0 6) + 1 ≤ 2147483647 ∧ Q 0 S (up (up V (V x0 5) (V x0 6) x1) x0 6 ((V x0 6) + 1)))) : XJ l G bX0_noteStart Q d 0 [vr x0, vi x1] [] S V mc ms := by
  refine X_aload_n dX0_noteStart_0 rfl ?_
  refine X_getfield (ci := 0) (k := 6) (v := vi (V x0 6)) dX0_noteStart_1 rfl (by decide) kf_RX0_65 rfl h.1 ?_
  refine X_aload_n dX0_noteStart_4 rfl ?_
  refine X_getfield (ci := 0) (k := 5) (v := vr (V x0 5)) dX0_noteStart_5 rfl (by decide) kf_RX0_29 rfl h.1 ?_
  refine X_alen (t := 20) (by decide) dX0_noteStart_8 h.2.1 ?_
  refine X_icmp_ge dX0_noteStart_9 (tgt := 32) rfl (fun c1 => ?_) (fun c1 => ?_)
  · exact X_ret (z := 0) dX0_noteStart_32 rfl (fun _ => trivial) (h.2.2.1 c1)
  · refine X_aload_n dX0_noteStart_12 rfl ?_
    refine X_getfield (ci := 0) (k := 5) (v := vr (V x0 5)) dX0_noteStart_13 rfl (by decide) kf_RX0_29 rfl h.1 ?_
    refine X_aload_n dX0_noteStart_16 rfl ?_
    refine X_getfield (ci := 0) (k := 6) (v := vi (V x0 6)) dX0_noteStart_17 rfl (by decide) kf_RX0_65 rfl h.1 ?_
    refine X_iload_n dX0_noteStart_20 rfl ?_
    refine X_iastore dX0_noteStart_21 h.2.1 (h.2.2.2 c1).1 (h.2.2.2 c1).2.1 ?_
    refine X_aload_n dX0_noteStart_22 rfl ?_
    refine X_dup dX0_noteStart_23 (rv_cat _) ?_
    refine X_getfield (ci := 0) (k := 6) (v := vi (V x0 6)) dX0_noteStart_24 rfl (by decide) kf_RX0_65 (congrArg vi (up_ne (Or.inl (tag_ne h.1 h.2.1 (by decide))))) h.1 ?_
    refine X_iconst dX0_noteStart_27 (by decide) ?_
    refine X_iaddN dX0_noteStart_28 (h.2.2.2 c1).2.2.1 (h.2.2.2 c1).2.2.2.1 ?_
    refine X_putfield (ci := 0) (k := 6) (z := ((V x0 6) + 1)) dX0_noteStart_29 rfl (by decide) kf_RX0_65 (Or.inl rfl) (Or.inl rfl) rfl (fun hv => hv) h.1 ?_
    exact X_ret (z := 0) dX0_noteStart_32 rfl (fun _ => trivial) (h.2.2.2 c1).2.2.2.2
theorem qX0_noteStart {l : Launch} {G : GT} {Q : Int → Sh → Mem → Prop} {d : Nat} {S : Sh} {V : Mem} {mc ms : Nat} {x0 x1 : Int} (h : 0 ≤ x0 → inI x1 → XJ l G bX0_noteStart Q d 0 [vr x0, vi x1] [] S V mc ms) : Ct l G bX0_noteStart Q d mc ms [vr x0, vi x1] S V := Ct.of okX0_noteStart.1 trivial (Nat.le_of_ble_eq_true rfl) (fun hv => h (hv _ (List.mem_of_getElem? (i := 0) rfl)) (hv _ (List.mem_of_getElem? (i := 1) rfl)))
set_option maxRecDepth 10000 in
theorem vX0_noteSeen_0 {l : Launch} {G : GT} {Q : Int → Sh → Mem → Prop} {d : Nat} {S : Sh} {V : Mem} {mc ms : Nat} {x0 x1 x2 : Int} (h : S.1 x0 = 1 ∧ S.1 (V x0 7) = 20 ∧ ((S.2.1 (V x0 7)) ≤ (V x0 9) → Q 0 S V) ∧ (¬ ((S.2.1 (V x0 7)) ≤ (V x0 9)) → 0 ≤ (V x0 9) ∧ (V x0 9) < S.2.1 (V x0 7) ∧ S.1 (V x0 8) = 20 ∧ (V x0 9) < S.2.1 (V x0 8) ∧ -2147483648 ≤ (V x0 9) + 1 ∧ (V x0 9) + 1 ≤ 2147483647 ∧ Q 0 S (up (up (up V (V x0 7) (V x0 9) x1) (V x0 8) (V x0 9) x2) x0 9 ((V x0 9) + 1)))) : XJ l G bX0_noteSeen Q d 0 [vr x0, vi x1, vi x2] [] S V mc ms := by
  refine X_aload_n dX0_noteSeen_0 rfl ?_
  refine X_getfield (ci := 0) (k := 9) (v := vi (V x0 9)) dX0_noteSeen_1 rfl (by decide) kf_RX0_68 rfl h.1 ?_
  refine X_aload_n dX0_noteSeen_4 rfl ?_
  refine X_getfield (ci := 0) (k := 7) (v := vr (V x0 7)) dX0_noteSeen_5 rfl (by decide) kf_RX0_37 rfl h.1 ?_
  refine X_alen (t := 20) (by decide) dX0_noteSeen_8 h.2.1 ?_
  refine X_icmp_ge dX0_noteSeen_9 (tgt := 42) rfl (fun c1 => ?_) (fun c1 => ?_)
  · exact X_ret (z := 0) dX0_noteSeen_42 rfl (fun _ => trivial) (h.2.2.1 c1)
  · refine X_aload_n dX0_noteSeen_12 rfl ?_
    refine X_getfield (ci := 0) (k := 7) (v := vr (V x0 7)) dX0_noteSeen_13 rfl (by decide) kf_RX0_37 rfl h.1 ?_
    refine X_aload_n dX0_noteSeen_16 rfl ?_
    refine X_getfield (ci := 0) (k := 9) (v := vi (V x0 9)) dX0_noteSeen_17 rfl (by decide) kf_RX0_68 rfl h.1 ?_
    refine X_iload_n dX0_noteSeen_20 rfl ?_
    refine X_iastore dX0_noteSeen_21 h.2.1 (h.2.2.2 c1).1 (h.2.2.2 c1).2.1 ?_
    refine X_aload_n dX0_noteSeen_22 rfl ?_
    refine X_getfield (ci := 0) (k := 8) (v := vr (V x0 8)) dX0_noteSeen_23 rfl (by decide) kf_RX0_40 (congrArg vr (up_ne (Or.inl (tag_ne h.1 h.2.1 (by decide))))) h.1 ?_
    refine X_aload_n dX0_noteSeen_26 rfl ?_
    refine X_getfield (ci := 0) (k := 9) (v := vi (V x0 9)) dX0_noteSeen_27 rfl (by decide) kf_RX0_68 (congrArg vi (up_ne (Or.inl (tag_ne h.1 h.2.1 (by decide))))) h.1 ?_
    refine X_iload_n dX0_noteSeen_30 rfl ?_
    refine X_iastore dX0_noteSeen_31 (h.2.2.2 c1).2.2.1 (h.2.2.2 c1).1 (h.2.2.2 c1).2.2.2.1 ?_
    refine X_aload_n dX0_noteSeen_32 rfl ?_
    refine X_dup dX0_noteSeen_33 (rv_cat _) ?_
    refine X_getfield (ci := 0) (k := 9) (v := vi (V x0 9)) dX0_noteSeen_34 rfl (by decide) kf_RX0_68 (congrArg vi ((up_ne (Or.inl (tag_ne h.1 (h.2.2.2 c1).2.2.1 (by decide)))).trans (up_ne (Or.inl (tag_ne h.1 h.2.1 (by decide)))))) h.1 ?_
    refine X_iconst dX0_noteSeen_37 (by decide) ?_
    refine X_iaddN dX0_noteSeen_38 (h.2.2.2 c1).2.2.2.2.1 (h.2.2.2 c1).2.2.2.2.2.1 ?_
    refine X_putfield (ci := 0) (k := 9) (z := ((V x0 9) + 1)) dX0_noteSeen_39 rfl (by decide) kf_RX0_68 (Or.inl rfl) (Or.inl rfl) rfl (fun hv => hv) h.1 ?_
    exact X_ret (z := 0) dX0_noteSeen_42 rfl (fun _ => trivial) (h.2.2.2 c1).2.2.2.2.2.2
theorem qX0_noteSeen {l : Launch} {G : GT} {Q : Int → Sh → Mem → Prop} {d : Nat} {S : Sh} {V : Mem} {mc ms : Nat} {x0 x1 x2 : Int} (h : 0 ≤ x0 → inI x1 → inI x2 → XJ l G bX0_noteSeen Q d 0 [vr x0, vi x1, vi x2] [] S V mc ms) : Ct l G bX0_noteSeen Q d mc ms [vr x0, vi x1, vi x2] S V := Ct.of okX0_noteSeen.1 trivial (Nat.le_of_ble_eq_true rfl) (fun hv => h (hv _ (List.mem_of_getElem? (i := 0) rfl)) (hv _ (List.mem_of_getElem? (i := 1) rfl)) (hv _ (List.mem_of_getElem? (i := 2) rfl)))
set_option maxRecDepth 10000 in
theorem vX0_linkNames_0 {l : Launch} {G : GT} {Q : Int → Sh → Mem → Prop} {d : Nat} {S : Sh} {V : Mem} {mc ms : Nat} {x0 x1 : Int} (h : XJ l G bX0_linkNames Q d 2 [vr x0, vr x1, vi 0, vu, vu, vu] [] S V mc ms) : XJ l G bX0_linkNames Q d 0 [vr x0, vr x1, vu, vu, vu, vu] [] S V mc ms := by
  refine X_iconst dX0_linkNames_0 (by decide) ?_
  refine X_istore_n dX0_linkNames_1 (by decide) rfl ?_
  exact h
set_option maxRecDepth 10000 in
theorem vX0_linkNames_2 {l : Launch} {G : GT} {Q : Int → Sh → Mem → Prop} {d : Nat} {S : Sh} {V : Mem} {mc ms : Nat} {x0 x1 x2 : Int} (h : S.1 x0 = 1 ∧ ((V x0 1) ≤ x2 → Q (-1) S V) ∧ (¬ ((V x0 1) ≤ x2) → S.1 (V x0 0) = 33 ∧ 0 ≤ x2 ∧ x2 < S.2.1 (V x0 0) ∧ S.1 (V (V x0 0) x2) = 4 ∧ S.1 (V x0 3) = 2 ∧ 1 ≤ d ∧ XJ l G bX0_linkNames Q d 45 [vr x0, vr x1, vi x2, vi (imin (V (V (V x0 0) x2) 2) (V (V x0 3) 2)), vi (imax (V (V (V x0 0) x2) 1) 0), vu] [] S V mc ms)) : XJ l G bX0_linkNames Q d 2 [vr x0, vr x1, vi x2, vu, vu, vu] [] S V mc ms := by
  refine X_iload_n dX0_linkNames_2 rfl ?_
  refine X_aload_n dX0_linkNames_3 rfl ?_
  refine X_getfield (ci := 0) (k := 1) (v := vi (V x0 1)) dX0_linkNames_4 rfl (by decide) kf_RX0_17 rfl h.1 ?_
  refine X_icmp_ge dX0_linkNames_7 (tgt := 81) rfl (fun c1 => ?_) (fun c1 => ?_)
  · refine X_iconst dX0_linkNames_81 (by decide) ?_
    exact X_ret (z := (-1)) dX0_linkNames_82 rfl (fun hv => vok_h hv) (h.2.1 c1)
  · refine X_aload_n dX0_linkNames_10 rfl ?_
    refine X_getfield (ci := 0) (k := 0) (v := vr (V x0 0)) dX0_linkNames_11 rfl (by decide) kf_RX0_11 rfl h.1 ?_
    refine X_iload_n dX0_linkNames_14 rfl ?_
    refine X_aaload33 dX0_linkNames_15 (h.2.2 c1).1 (h.2.2 c1).2.1 (h.2.2 c1).2.2.1 ?_
    refine X_getfield (ci := 3) (k := 2) (v := vi (V (V (V x0 0) x2) 2)) dX0_linkNames_16 rfl (by decide) kf_RX0_71 rfl (h.2.2 c1).2.2.2.1 ?_
    refine X_aload_n dX0_linkNames_19 rfl ?_
    refine X_getfield (ci := 0) (k := 3) (v := vr (V x0 3)) dX0_linkNames_20 rfl (by decide) kf_RX0_21 rfl h.1 ?_
    refine X_getfield (ci := 1) (k := 2) (v := vi (V (V x0 3) 2)) dX0_linkNames_23 rfl (by decide) kf_RX0_32 rfl (h.2.2 c1).2.2.2.2.1 ?_
    refine X_mmin dX0_linkNames_26 km_RX0_74 (Nat.le_of_ble_eq_true rfl) (h.2.2 c1).2.2.2.2.2.1 ?_
    refine X_istore_n dX0_linkNames_29 (by decide) rfl ?_
    refine X_aload_n dX0_linkNames_30 rfl ?_
    refine X_getfield (ci := 0) (k := 0) (v := vr (V x0 0)) dX0_linkNames_31 rfl (by decide) kf_RX0_11 rfl h.1 ?_
    refine X_iload_n dX0_linkNames_34 rfl ?_
    refine X_aaload33 dX0_linkNames_35 (h.2.2 c1).1 (h.2.2 c1).2.1 (h.2.2 c1).2.2.1 ?_
    refine X_getfield (ci := 3) (k := 1) (v := vi (V (V (V x0 0) x2) 1)) dX0_linkNames_36 rfl (by decide) kf_RX0_80 rfl (h.2.2 c1).2.2.2.1 ?_
    refine X_iconst dX0_linkNames_39 (by decide) ?_
    refine X_mmax dX0_linkNames_40 km_RX0_83 (Nat.le_of_ble_eq_true rfl) (h.2.2 c1).2.2.2.2.2.1 ?_
    refine X_istore dX0_linkNames_43 (by decide) rfl ?_
    exact (h.2.2 c1).2.2.2.2.2.2
set_option maxRecDepth 10000 in
theorem vX0_linkNames_45 {l : Launch} {G : GT} {Q : Int → Sh → Mem → Prop} {d : Nat} {S : Sh} {V : Mem} {mc ms : Nat} {x0 x1 x2 x3 x4 : Int} (h : (x3 ≤ x4 → -2147483648 ≤ x2 + 1 ∧ x2 + 1 ≤ 2147483647 ∧ XJ l G bX0_linkNames Q d 2 [vr x0, vr x1, vi (x2 + 1), vu, vu, vu] [] S V mc ms) ∧ (¬ (x3 ≤ x4) → S.1 x0 = 1 ∧ CT l G bX0_linkStep d mc ms [vr x0, vi x4, vi x2, vr x1] S V (fun z2 S2 V2 mc2 ms2 => (z2 < 0 → -2147483648 ≤ x4 + 1 ∧ x4 + 1 ≤ 2147483647 ∧ XJ l G bX0_linkNames Q d 45 [vr x0, vr x1, vi x2, vi x3, vi (x4 + 1), vu] [] S2 V2 mc2 ms2) ∧ (¬ (z2 < 0) → Q z2 S2 V2)))) : XJ l G bX0_linkNames Q d 45 [vr x0, vr x1, vi x2, vi x3, vi x4, vu] [] S V mc ms := by
  refine X_iload dX0_linkNames_45 rfl ?_
  refine X_iload_n dX0_linkNames_47 rfl ?_
  refine X_icmp_ge dX0_linkNames_48 (tgt := 75) rfl (fun c1 => ?_) (fun c1 => ?_)
  · refine X_iincN dX0_linkNames_75 rfl (by decide) rfl (e := x2 + 1) rfl (h.1 c1).1 (h.1 c1).2.1 ?_
    refine X_goto dX0_linkNames_78 (tgt := 2) rfl ?_
    exact X_weak [false, false, false, true, true, false] (h.1 c1).2.2
  · refine X_aload_n dX0_linkNames_51 rfl ?_
    refine X_iload dX0_linkNames_52 rfl ?_
    refine X_iload_n dX0_linkNames_54 rfl ?_
    refine X_aload_n dX0_linkNames_55 rfl ?_
    refine X_invV (ci := 0) (as := [vi x4, vi x2, vr x1]) (st := []) okX0_linkStep dX0_linkNames_56 km_RX0_86 rfl rfl (Nat.le_of_ble_eq_true rfl) rfl rfl (h.2 c1).1 (CT.imp (h.2 c1).2 (fun z2 S2 V2 mc2 ms2 hc3 => ?_))
    refine X_istore dX0_linkNames_59 (by decide) rfl ?_
    refine X_iload dX0_linkNames_61 rfl ?_
    refine X_if_lt dX0_linkNames_63 (tgt := 69) rfl (fun c4 => ?_) (fun c4 => ?_)
    · refine X_iincN dX0_linkNames_69 rfl (by decide) rfl (e := x4 + 1) rfl (hc3.1 c4).1 (hc3.1 c4).2.1 ?_
      refine X_goto dX0_linkNames_72 (tgt := 45) rfl ?_
      exact X_weak [false, false, false, false, false, true] (hc3.1 c4).2.2
    · refine X_iload dX0_linkNames_66 rfl ?_
      exact X_ret (z := z2) dX0_linkNames_68 rfl (fun hv => vok_h hv) (hc3.2 c4)
theorem qX0_linkNames {l : Launch} {G : GT} {Q : Int → Sh → Mem → Prop} {d : Nat} {S : Sh} {V : Mem} {mc ms : Nat} {x0 x1 : Int} (h : 0 ≤ x0 → 0 ≤ x1 → XJ l G bX0_linkNames Q d 0 [vr x0, vr x1, vu, vu, vu, vu] [] S V mc ms) : Ct l G bX0_linkNames Q d mc ms [vr x0, vr x1] S V := Ct.of okX0_linkNames.1 trivial (Nat.le_of_ble_eq_true rfl) (fun hv => h (hv _ (List.mem_of_getElem? (i := 0) rfl)) (hv _ (List.mem_of_getElem? (i := 1) rfl)))
set_option maxRecDepth 10000 in
theorem vX0_linkStep_0 {l : Launch} {G : GT} {Q : Int → Sh → Mem → Prop} {d : Nat} {S : Sh} {V : Mem} {mc ms : Nat} {x0 x1 x2 x3 : Int} (h : S.1 x0 = 1 ∧ S.1 (V x0 3) = 2 ∧ S.1 (V (V x0 3) 0) = 20 ∧ 0 ≤ x1 ∧ x1 < S.2.1 (V (V x0 3) 0) ∧ ((V (V (V x0 3) 0) x1) ≠ 5 → ((V (V (V x0 3) 0) x1) < 11 → Q (-1) S V) ∧ (¬ ((V (V (V x0 3) 0) x1) < 11) → ((V (V (V x0 3) 0) x1) ≤ 14 → S.1 (V (V x0 3) 1) = 20 ∧ x1 < S.2.1 (V (V x0 3) 1) ∧ ((V (V (V x0 3) 0) x1) = 14 → S.1 x3 = 10 ∧ S.1 (V x3 2) = 22 ∧ 0 ≤ (V (V (V x0 3) 1) x1) ∧ (V (V (V x0 3) 1) x1) < S.2.1 (V x3 2) ∧ CT l G bX0_linkTo d mc ms [vr x0, vi x1, vi x2, vl (V (V x3 2) (V (V (V x0 3) 1) x1))] S V (fun z5 S5 V5 mc5 ms5 => (z5 = 0 → Q (V (V (V x0 3) 1) x1) S5 V5) ∧ (¬ (z5 = 0) → Q (-1) S5 V5))) ∧ (¬ ((V (V (V x0 3) 0) x1) = 14) → S.1 x3 = 10 ∧ -2147483648 ≤ (V (V (V x0 3) 1) x1) + 1 ∧ (V (V (V x0 3) 1) x1) + 1 ≤ 2147483647 ∧ S.1 (V x3 0) = 20 ∧ 0 ≤ ((V (V (V x0 3) 1) x1) + 1) ∧ ((V (V (V x0 3) 1) x1) + 1) < S.2.1 (V x3 0) ∧ ((V (V x3 0) ((V (V (V x0 3) 1) x1) + 1)) ≠ 46 → S.1 (V x3 2) = 22 ∧ 0 ≤ (V (V (V x0 3) 1) x1) ∧ (V (V (V x0 3) 1) x1) < S.2.1 (V x3 2) ∧ CT l G bX0_linkTo d mc ms [vr x0, vi x1, vi x2, vl (V (V x3 2) (V (V (V x0 3) 1) x1))] S V (fun z9 S9 V9 mc9 ms9 => (z9 = 0 → Q (V (V (V x0 3) 1) x1) S9 V9) ∧ (¬ (z9 = 0) → Q (-1) S9 V9))) ∧ (¬ ((V (V x3 0) ((V (V (V x0 3) 1) x1) + 1)) ≠ 46) → S.1 (V x3 2) = 22 ∧ 0 ≤ (V (V (V x0 3) 1) x1) ∧ (V (V (V x0 3) 1) x1) < S.2.1 (V x3 2) ∧ CT l G bX0_findEnum d mc ms [vr x0, vl (V (V x3 2) (V (V (V x0 3) 1) x1))] S V (fun z12 S12 V12 mc12 ms12 => (0 ≤ z12 → -2147483648 ≤ (V (V (V x0 3) 1) x1) + 2 ∧ (V (V (V x0 3) 1) x1) + 2 ≤ 2147483647 ∧ S12.1 x3 = 10 ∧ S12.1 (V12 x3 2) = 22 ∧ 0 ≤ ((V (V (V x0 3) 1) x1) + 2) ∧ ((V (V (V x0 3) 1) x1) + 2) < S12.2.1 (V12 x3 2) ∧ S12.1 x0 = 1 ∧ CT l G bX0_linkTo d mc12 ms12 [vr x0, vi x1, vi z12, vl (V12 (V12 x3 2) ((V (V (V x0 3) 1) x1) + 2))] S12 V12 (fun z15 S15 V15 mc15 ms15 => (z15 = 0 → Q ((V (V (V x0 3) 1) x1) + 2) S15 V15) ∧ (¬ (z15 = 0) → Q (-1) S15 V15))) ∧ (¬ (0 ≤ z12) → Q (V (V (V x0 3) 1) x1) S12 V12))))) ∧ (¬ ((V (V (V x0 3) 0) x1) ≤ 14) → Q (-1) S V))) ∧ (¬ ((V (V (V x0 3) 0) x1) ≠ 5) → S.1 (V x0 0) = 33 ∧ 0 ≤ x2 ∧ x2 < S.2.1 (V x0 0) ∧ S.1 (V (V x0 0) x2) = 4 ∧ CT l G bX0_relink d mc ms [vr x0, vi x1, vi 1, vi (V (V (V x0 0) x2) 4)] S V (fun z18 S18 V18 mc18 ms18 => Q z18 S18 V18))) : XJ l G bX0_linkStep Q d 0 [vr x0, vi x1, vi x2, vr x3, vu, vu, vu, vu] [] S V mc ms := by
  refine X_aload_n dX0_linkStep_0 rfl ?_
  refine X_getfield (ci := 0) (k := 3) (v := vr (V x0 3)) dX0_linkStep_1 rfl (by decide) kf_RX0_21 rfl h.1 ?_
  refine X_getfield (ci := 1) (k := 0) (v := vr (V (V x0 3) 0)) dX0_linkStep_4 rfl (by decide) kf_RX0_90 rfl h.2.1 ?_
  refine X_iload_n dX0_linkStep_7 rfl ?_
  refine X_iaload dX0_linkStep_8 h.2.2.1 h.2.2.2.1 h.2.2.2.2.1 ?_
  refine X_istore dX0_linkStep_9 (by decide) rfl ?_
  refine X_iload dX0_linkStep_11 rfl ?_
  refine X_iconst dX0_linkStep_13 (by decide) ?_
  refine X_icmp_ne dX0_linkStep_14 (tgt := 33) rfl (fun c1 => ?_) (fun c1 => ?_)
  · refine X_iload dX0_linkStep_33 rfl ?_
    refine X_bipush dX0_linkStep_35 (by decide) (by decide) ?_
    refine X_icmp_lt dX0_linkStep_37 (tgt := 47) rfl (fun c2 => ?_) (fun c2 => ?_)
    · refine X_iconst dX0_linkStep_47 (by decide) ?_
      exact X_ret (z := (-1)) dX0_linkStep_48 rfl (fun hv => vok_h hv) ((h.2.2.2.2.2.1 c1).1 c2)
    · refine X_iload dX0_linkStep_40 rfl ?_
      refine X_bipush dX0_linkStep_42 (by decide) (by decide) ?_
      refine X_icmp_le dX0_linkStep_44 (tgt := 49) rfl (fun c3 => ?_) (fun c3 => ?_)
      · refine X_aload_n dX0_linkStep_49 rfl ?_
        refine X_getfield (ci := 0) (k := 3) (v := vr (V x0 3)) dX0_linkStep_50 rfl (by decide) kf_RX0_21 rfl h.1 ?_
        refine X_getfield (ci := 1) (k := 1) (v := vr (V (V x0 3) 1)) dX0_linkStep_53 rfl (by decide) kf_RX0_100 rfl h.2.1 ?_
        refine X_iload_n dX0_linkStep_56 rfl ?_
        refine X_iaload dX0_linkStep_57 (((h.2.2.2.2.2.1 c1).2 c2).1 c3).1 h.2.2.2.1 (((h.2.2.2.2.2.1 c1).2 c2).1 c3).2.1 ?_
        refine X_istore dX0_linkStep_58 (by decide) rfl ?_
        refine X_iload_n dX0_linkStep_60 rfl ?_
        refine X_istore dX0_linkStep_61 (by decide) rfl ?_
        refine X_iload dX0_linkStep_63 rfl ?_
        refine X_bipush dX0_linkStep_65 (by decide) (by decide) ?_
        refine X_icmp_eq dX0_linkStep_67 (tgt := 108) rfl (fun c4 => ?_) (fun c4 => ?_)
        · refine X_aload_n dX0_linkStep_108 rfl ?_
          refine X_iload_n dX0_linkStep_109 rfl ?_
          refine X_iload dX0_linkStep_110 rfl ?_
          refine X_aload_n dX0_linkStep_112 rfl ?_
          refine X_getfield (ci := 9) (k := 2) (v := vr (V x3 2)) dX0_linkStep_113 rfl (by decide) kf_RX0_108 rfl ((((h.2.2.2.2.2.1 c1).2 c2).1 c3).2.2.1 c4).1 ?_
          refine X_iload dX0_linkStep_116 rfl ?_
          refine X_laload dX0_linkStep_118 ((((h.2.2.2.2.2.1 c1).2 c2).1 c3).2.2.1 c4).2.1 ((((h.2.2.2.2.2.1 c1).2 c2).1 c3).2.2.1 c4).2.2.1 ((((h.2.2.2.2.2.1 c1).2 c2).1 c3).2.2.1 c4).2.2.2.1 ?_
          refine X_invV (ci := 0) (as := [vi x1, vi x2, vl (V (V x3 2) (V (V (V x0 3) 1) x1))]) (st := []) okX0_linkTo dX0_linkStep_119 km_RX0_116 rfl rfl (Nat.le_of_ble_eq_true rfl) rfl rfl h.1 (CT.imp ((((h.2.2.2.2.2.1 c1).2 c2).1 c3).2.2.1 c4).2.2.2.2 (fun z5 S5 V5 mc5 ms5 hc6 => ?_))
          refine X_istore dX0_linkStep_122 (by decide) rfl ?_
          refine X_iload dX0_linkStep_124 rfl ?_
          refine X_if_eq dX0_linkStep_126 (tgt := 133) rfl (fun c7 => ?_) (fun c7 => ?_)
          · refine X_iload dX0_linkStep_133 rfl ?_
            exact X_ret (z := (V (V (V x0 3) 1) x1)) dX0_linkStep_135 rfl (fun hv => vok_h hv) (hc6.1 c7)
          · refine X_iconst dX0_linkStep_129 (by decide) ?_
            refine X_goto dX0_linkStep_130 (tgt := 135) rfl ?_
            exact X_ret (z := (-1)) dX0_linkStep_135 rfl (fun hv => vok_h hv) (hc6.2 c7)
        · refine X_aload_n dX0_linkStep_70 rfl ?_
          refine X_getfield (ci := 9) (k := 0) (v := vr (V x3 0)) dX0_linkStep_71 rfl (by decide) kf_RX0_103 rfl ((((h.2.2.2.2.2.1 c1).2 c2).1 c3).2.2.2 c4).1 ?_
          refine X_iload dX0_linkStep_74 rfl ?_
          refine X_iconst dX0_linkStep_76 (by decide) ?_
          refine X_iaddN dX0_linkStep_77 ((((h.2.2.2.2.2.1 c1).2 c2).1 c3).2.2.2 c4).2.1 ((((h.2.2.2.2.2.1 c1).2 c2).1 c3).2.2.2 c4).2.2.1 ?_
          refine X_iaload dX0_linkStep_78 ((((h.2.2.2.2.2.1 c1).2 c2).1 c3).2.2.2 c4).2.2.2.1 ((((h.2.2.2.2.2.1 c1).2 c2).1 c3).2.2.2 c4).2.2.2.2.1 ((((h.2.2.2.2.2.1 c1).2 c2).1 c3).2.2.2 c4).2.2.2.2.2.1 ?_
          refine X_bipush dX0_linkStep_79 (by decide) (by decide) ?_
          refine X_icmp_ne dX0_linkStep_81 (tgt := 108) rfl (fun c8 => ?_) (fun c8 => ?_)
          · refine X_aload_n dX0_linkStep_108 rfl ?_
            refine X_iload_n dX0_linkStep_109 rfl ?_
            refine X_iload dX0_linkStep_110 rfl ?_
            refine X_aload_n dX0_linkStep_112 rfl ?_
            refine X_getfield (ci := 9) (k := 2) (v := vr (V x3 2)) dX0_linkStep_113 rfl (by decide) kf_RX0_108 rfl ((((h.2.2.2.2.2.1 c1).2 c2).1 c3).2.2.2 c4).1 ?_
            refine X_iload dX0_linkStep_116 rfl ?_
            refine X_laload dX0_linkStep_118 (((((h.2.2.2.2.2.1 c1).2 c2).1 c3).2.2.2 c4).2.2.2.2.2.2.1 c8).1 (((((h.2.2.2.2.2.1 c1).2 c2).1 c3).2.2.2 c4).2.2.2.2.2.2.1 c8).2.1 (((((h.2.2.2.2.2.1 c1).2 c2).1 c3).2.2.2 c4).2.2.2.2.2.2.1 c8).2.2.1 ?_
            refine X_invV (ci := 0) (as := [vi x1, vi x2, vl (V (V x3 2) (V (V (V x0 3) 1) x1))]) (st := []) okX0_linkTo dX0_linkStep_119 km_RX0_116 rfl rfl (Nat.le_of_ble_eq_true rfl) rfl rfl h.1 (CT.imp (((((h.2.2.2.2.2.1 c1).2 c2).1 c3).2.2.2 c4).2.2.2.2.2.2.1 c8).2.2.2 (fun z9 S9 V9 mc9 ms9 hc10 => ?_))
            refine X_istore dX0_linkStep_122 (by decide) rfl ?_
            refine X_iload dX0_linkStep_124 rfl ?_
            refine X_if_eq dX0_linkStep_126 (tgt := 133) rfl (fun c11 => ?_) (fun c11 => ?_)
            · refine X_iload dX0_linkStep_133 rfl ?_
              exact X_ret (z := (V (V (V x0 3) 1) x1)) dX0_linkStep_135 rfl (fun hv => vok_h hv) (hc10.1 c11)
            · refine X_iconst dX0_linkStep_129 (by decide) ?_
              refine X_goto dX0_linkStep_130 (tgt := 135) rfl ?_
              exact X_ret (z := (-1)) dX0_linkStep_135 rfl (fun hv => vok_h hv) (hc10.2 c11)
          · refine X_aload_n dX0_linkStep_84 rfl ?_
            refine X_aload_n dX0_linkStep_85 rfl ?_
            refine X_getfield (ci := 9) (k := 2) (v := vr (V x3 2)) dX0_linkStep_86 rfl (by decide) kf_RX0_108 rfl ((((h.2.2.2.2.2.1 c1).2 c2).1 c3).2.2.2 c4).1 ?_
            refine X_iload dX0_linkStep_89 rfl ?_
            refine X_laload dX0_linkStep_91 (((((h.2.2.2.2.2.1 c1).2 c2).1 c3).2.2.2 c4).2.2.2.2.2.2.2 c8).1 (((((h.2.2.2.2.2.1 c1).2 c2).1 c3).2.2.2 c4).2.2.2.2.2.2.2 c8).2.1 (((((h.2.2.2.2.2.1 c1).2 c2).1 c3).2.2.2 c4).2.2.2.2.2.2.2 c8).2.2.1 ?_
            refine X_invV (ci := 0) (as := [vl (V (V x3 2) (V (V (V x0 3) 1) x1))]) (st := []) okX0_findEnum dX0_linkStep_92 km_RX0_112 rfl rfl (Nat.le_of_ble_eq_true rfl) rfl rfl h.1 (CT.imp (((((h.2.2.2.2.2.1 c1).2 c2).1 c3).2.2.2 c4).2.2.2.2.2.2.2 c8).2.2.2 (fun z12 S12 V12 mc12 ms12 hc13 => ?_))
            refine X_istore dX0_linkStep_95 (by decide) rfl ?_
            refine X_iload dX0_linkStep_97 rfl ?_
            refine X_if_ge dX0_linkStep_99 (tgt := 105) rfl (fun c14 => ?_) (fun c14 => ?_)
            · refine X_iincN dX0_linkStep_105 rfl (by decide) rfl (e := (V (V (V x0 3) 1) x1) + 2) rfl (hc13.1 c14).1 (hc13.1 c14).2.1 ?_
              refine X_aload_n dX0_linkStep_108 rfl ?_
              refine X_iload_n dX0_linkStep_109 rfl ?_
              refine X_iload dX0_linkStep_110 rfl ?_
              refine X_aload_n dX0_linkStep_112 rfl ?_
              refine X_getfield (ci := 9) (k := 2) (v := vr (V12 x3 2)) dX0_linkStep_113 rfl (by decide) kf_RX0_108 rfl (hc13.1 c14).2.2.1 ?_
              refine X_iload dX0_linkStep_116 rfl ?_
              refine X_laload dX0_linkStep_118 (hc13.1 c14).2.2.2.1 (hc13.1 c14).2.2.2.2.1 (hc13.1 c14).2.2.2.2.2.1 ?_
              refine X_invV (ci := 0) (as := [vi x1, vi z12, vl (V12 (V12 x3 2) ((V (V (V x0 3) 1) x1) + 2))]) (st := []) okX0_linkTo dX0_linkStep_119 km_RX0_116 rfl rfl (Nat.le_of_ble_eq_true rfl) rfl rfl (hc13.1 c14).2.2.2.2.2.2.1 (CT.imp (hc13.1 c14).2.2.2.2.2.2.2 (fun z15 S15 V15 mc15 ms15 hc16 => ?_))
              refine X_istore dX0_linkStep_122 (by decide) rfl ?_
              refine X_iload dX0_linkStep_124 rfl ?_
              refine X_if_eq dX0_linkStep_126 (tgt := 133) rfl (fun c17 => ?_) (fun c17 => ?_)
              · refine X_iload dX0_linkStep_133 rfl ?_
                exact X_ret (z := ((V (V (V x0 3) 1) x1) + 2)) dX0_linkStep_135 rfl (fun hv => vok_h hv) (hc16.1 c17)
              · refine X_iconst dX0_linkStep_129 (by decide) ?_
                refine X_goto dX0_linkStep_130 (tgt := 135) rfl ?_
                exact X_ret (z := (-1)) dX0_linkStep_135 rfl (fun hv => vok_h hv) (hc16.2 c17)
            · refine X_iload dX0_linkStep_102 rfl ?_
              exact X_ret (z := (V (V (V x0 3) 1) x1)) dX0_linkStep_104 rfl (fun hv => vok_h hv) (hc13.2 c14)
      · refine X_iconst dX0_linkStep_47 (by decide) ?_
        exact X_ret (z := (-1)) dX0_linkStep_48 rfl (fun hv => vok_h hv) (((h.2.2.2.2.2.1 c1).2 c2).2 c3)
  · refine X_aload_n dX0_linkStep_17 rfl ?_
    refine X_iload_n dX0_linkStep_18 rfl ?_
    refine X_iconst dX0_linkStep_19 (by decide) ?_
    refine X_aload_n dX0_linkStep_20 rfl ?_
    refine X_getfield (ci := 0) (k := 0) (v := vr (V x0 0)) dX0_linkStep_21 rfl (by decide) kf_RX0_11 rfl h.1 ?_
    refine X_iload_n dX0_linkStep_24 rfl ?_
    refine X_aaload33 dX0_linkStep_25 (h.2.2.2.2.2.2 c1).1 (h.2.2.2.2.2.2 c1).2.1 (h.2.2.2.2.2.2 c1).2.2.1 ?_
    refine X_getfield (ci := 3) (k := 4) (v := vi (V (V (V x0 0) x2) 4)) dX0_linkStep_26 rfl (by decide) kf_RX0_93 rfl (h.2.2.2.2.2.2 c1).2.2.2.1 ?_
    refine X_invV (ci := 0) (as := [vi x1, vi 1, vi (V (V (V x0 0) x2) 4)]) (st := []) okX0_relink dX0_linkStep_29 km_RX0_96 rfl rfl (Nat.le_of_ble_eq_true rfl) rfl rfl h.1 (CT.imp (h.2.2.2.2.2.2 c1).2.2.2.2 (fun z18 S18 V18 mc18 ms18 hc19 => ?_))
    exact X_ret (z := z18) dX0_linkStep_32 rfl (fun hv => vok_h hv) hc19
theorem qX0_linkStep {l : Launch} {G : GT} {Q : Int → Sh → Mem → Prop} {d : Nat} {S : Sh} {V : Mem} {mc ms : Nat} {x0 x1 x2 x3 : Int} (h : 0 ≤ x0 → inI x1 → inI x2 → 0 ≤ x3 → XJ l G bX0_linkStep Q d 0 [vr x0, vi x1, vi x2, vr x3, vu, vu, vu, vu] [] S V mc ms) : Ct l G bX0_linkStep Q d mc ms [vr x0, vi x1, vi x2, vr x3] S V := Ct.of okX0_linkStep.1 trivial (Nat.le_of_ble_eq_true rfl) (fun hv => h (hv _ (List.mem_of_getElem? (i := 0) rfl)) (hv _ (List.mem_of_getElem? (i := 1) rfl)) (hv _ (List.mem_of_getElem? (i := 2) rfl)) (hv _ (List.mem_of_getElem? (i := 3) rfl)))
set_option maxRecDepth 10000 in
theorem vX0_linkTo_0 {l : Launch} {G : GT} {Q : Int → Sh → Mem → Prop} {d : Nat} {S : Sh} {V : Mem} {mc ms : Nat} {x0 x1 x2 x3 : Int} (h : S.1 x0 = 1 ∧ S.1 (V x0 0) = 33 ∧ 0 ≤ x2 ∧ x2 < S.2.1 (V x0 0) ∧ S.1 (V x0 3) = 2 ∧ S.1 (V (V x0 3) 0) = 20 ∧ 0 ≤ x1 ∧ x1 < S.2.1 (V (V x0 3) 0) ∧ ((V (V (V x0 3) 0) x1) = 12 → S.1 (V (V x0 0) x2) = 4 ∧ CT l G bX3_findTable d mc ms [vr (V (V x0 0) x2), vl x3] S V (fun z2 S2 V2 mc2 ms2 => ((V (V (V x0 3) 0) x1) ≠ 12 → -2147483648 ≤ x2 * 4 ∧ x2 * 4 ≤ 2147483647 ∧ -2147483648 ≤ (x2 * 4) + z2 ∧ (x2 * 4) + z2 ≤ 2147483647 ∧ S2.1 x0 = 1 ∧ CT l G bX0_relink d mc2 ms2 [vr x0, vi x1, vi 18, vi ((x2 * 4) + z2)] S2 V2 (fun z5 S5 V5 mc5 ms5 => (z2 < 0 → Q 0 S5 V5) ∧ (¬ (z2 < 0) → Q 1 S5 V5))) ∧ (¬ ((V (V (V x0 3) 0) x1) ≠ 12) → S2.1 x0 = 1 ∧ CT l G bX0_relink d mc2 ms2 [vr x0, vi x1, vi 17, vi x2] S2 V2 (fun z8 S8 V8 mc8 ms8 => (z2 < 0 → Q 0 S8 V8) ∧ (¬ (z2 < 0) → Q 1 S8 V8))))) ∧ (¬ ((V (V (V x0 3) 0) x1) = 12) → ((V (V (V x0 3) 0) x1) ≠ 13 → S.1 (V (V x0 0) x2) = 4 ∧ CT l G bX3_findConstant d mc ms [vr (V (V x0 0) x2), vl x3] S V (fun z12 S12 V12 mc12 ms12 => ((V (V (V x0 3) 0) x1) ≠ 14 → (z12 < 0 → S12.1 (V (V x0 0) x2) = 4 ∧ CT l G bX3_findHolder d mc12 ms12 [vr (V (V x0 0) x2), vl x3] S12 V12 (fun z16 S16 V16 mc16 ms16 => -2147483648 ≤ x2 * 4 ∧ x2 * 4 ≤ 2147483647 ∧ -2147483648 ≤ 100 + (x2 * 4) ∧ 100 + (x2 * 4) ≤ 2147483647 ∧ -2147483648 ≤ (100 + (x2 * 4)) + z16 ∧ (100 + (x2 * 4)) + z16 ≤ 2147483647 ∧ S16.1 x0 = 1 ∧ CT l G bX0_relink d mc16 ms16 [vr x0, vi x1, vi 16, vi ((100 + (x2 * 4)) + z16)] S16 V16 (fun z18 S18 V18 mc18 ms18 => (z16 < 0 → Q 0 S18 V18) ∧ (¬ (z16 < 0) → Q 1 S18 V18)))) ∧ (¬ (z12 < 0) → -2147483648 ≤ x2 * 24 ∧ x2 * 24 ≤ 2147483647 ∧ -2147483648 ≤ (x2 * 24) + z12 ∧ (x2 * 24) + z12 ≤ 2147483647 ∧ S12.1 x0 = 1 ∧ CT l G bX0_relink d mc12 ms12 [vr x0, vi x1, vi 15, vi ((x2 * 24) + z12)] S12 V12 (fun z21 S21 V21 mc21 ms21 => Q 1 S21 V21))) ∧ (¬ ((V (V (V x0 3) 0) x1) ≠ 14) → S12.1 x0 = 1 ∧ CT l G bX0_relink d mc12 ms12 [vr x0, vi x1, vi (V (V (V x0 3) 0) x1), vi z12] S12 V12 (fun z23 S23 V23 mc23 ms23 => (z12 < 0 → Q 0 S23 V23) ∧ (¬ (z12 < 0) → Q 1 S23 V23))))) ∧ (¬ ((V (V (V x0 3) 0) x1) ≠ 13) → S.1 (V (V x0 0) x2) = 4 ∧ CT l G bX3_findTable d mc ms [vr (V (V x0 0) x2), vl x3] S V (fun z26 S26 V26 mc26 ms26 => ((V (V (V x0 3) 0) x1) ≠ 12 → -2147483648 ≤ x2 * 4 ∧ x2 * 4 ≤ 2147483647 ∧ -2147483648 ≤ (x2 * 4) + z26 ∧ (x2 * 4) + z26 ≤ 2147483647 ∧ S26.1 x0 = 1 ∧ CT l G bX0_relink d mc26 ms26 [vr x0, vi x1, vi 18, vi ((x2 * 4) + z26)] S26 V26 (fun z29 S29 V29 mc29 ms29 => (z26 < 0 → Q 0 S29 V29) ∧ (¬ (z26 < 0) → Q 1 S29 V29))) ∧ (¬ ((V (V (V x0 3) 0) x1) ≠ 12) → S26.1 x0 = 1 ∧ CT l G bX0_relink d mc26 ms26 [vr x0, vi x1, vi 17, vi x2] S26 V26 (fun z32 S32 V32 mc32 ms32 => (z26 < 0 → Q 0 S32 V32) ∧ (¬ (z26 < 0) → Q 1 S32 V32))))))) : XJ l G bX0_linkTo Q d 0 [vr x0, vi x1, vi x2, vl x3, vu, vu, vu, vu, vu] [] S V mc ms := by
  refine X_aload_n dX0_linkTo_0 rfl ?_
  refine X_getfield (ci := 0) (k := 0) (v := vr (V x0 0)) dX0_linkTo_1 rfl (by decide) kf_RX0_11 rfl h.1 ?_
  refine X_iload_n dX0_linkTo_4 rfl ?_
  refine X_aaload33 dX0_linkTo_5 h.2.1 h.2.2.1 h.2.2.2.1 ?_
  refine X_astore dX0_linkTo_6 (by decide) rfl ?_
  refine X_aload_n dX0_linkTo_8 rfl ?_
  refine X_getfield (ci := 0) (k := 3) (v := vr (V x0 3)) dX0_linkTo_9 rfl (by decide) kf_RX0_21 rfl h.1 ?_
  refine X_getfield (ci := 1) (k := 0) (v := vr (V (V x0 3) 0)) dX0_linkTo_12 rfl (by decide) kf_RX0_90 rfl h.2.2.2.2.1 ?_
  refine X_iload_n dX0_linkTo_15 rfl ?_
  refine X_iaload dX0_linkTo_16 h.2.2.2.2.2.1 h.2.2.2.2.2.2.1 h.2.2.2.2.2.2.2.1 ?_
  refine X_istore dX0_linkTo_17 (by decide) rfl ?_
  refine X_iload dX0_linkTo_19 rfl ?_
  refine X_bipush dX0_linkTo_21 (by decide) (by decide) ?_
  refine X_icmp_eq dX0_linkTo_23 (tgt := 33) rfl (fun c1 => ?_) (fun c1 => ?_)
  · refine X_aload dX0_linkTo_33 rfl ?_
    refine X_lload_n dX0_linkTo_35 rfl ?_
    refine X_invV (ci := 3) (as := [vl x3]) (st := []) okX3_findTable dX0_linkTo_36 km_RX0_120 rfl rfl (Nat.le_of_ble_eq_true rfl) rfl rfl (h.2.2.2.2.2.2.2.2.1 c1).1 (CT.imp (h.2.2.2.2.2.2.2.2.1 c1).2 (fun z2 S2 V2 mc2 ms2 hc3 => ?_))
    refine X_istore dX0_linkTo_39 (by decide) rfl ?_
    refine X_iload dX0_linkTo_41 rfl ?_
    refine X_bipush dX0_linkTo_43 (by decide) (by decide) ?_
    refine X_icmp_ne dX0_linkTo_45 (tgt := 52) rfl (fun c4 => ?_) (fun c4 => ?_)
    · refine X_iconst dX0_linkTo_52 (by decide) ?_
      refine X_istore dX0_linkTo_53 (by decide) rfl ?_
      refine X_aload_n dX0_linkTo_55 rfl ?_
      refine X_iload_n dX0_linkTo_56 rfl ?_
      refine X_iload dX0_linkTo_57 rfl ?_
      refine X_if_eq dX0_linkTo_59 (tgt := 67) rfl (fun _ => ?_) (fun c => absurd (by decide) c)
      refine X_bipush dX0_linkTo_67 (by decide) (by decide) ?_
      refine X_iload dX0_linkTo_69 rfl ?_
      refine X_if_eq dX0_linkTo_71 (tgt := 78) rfl (fun _ => ?_) (fun c => absurd (by decide) c)
      refine X_iload_n dX0_linkTo_78 rfl ?_
      refine X_iconst dX0_linkTo_79 (by decide) ?_
      refine X_imulN dX0_linkTo_80 (hc3.1 c4).1 (hc3.1 c4).2.1 ?_
      refine X_iload dX0_linkTo_81 rfl ?_
      refine X_iaddN dX0_linkTo_83 (hc3.1 c4).2.2.1 (hc3.1 c4).2.2.2.1 ?_
      refine X_invV (ci := 0) (as := [vi x1, vi 18, vi ((x2 * 4) + z2)]) (st := []) okX0_relink dX0_linkTo_84 km_RX0_96 rfl rfl (Nat.le_of_ble_eq_true rfl) rfl rfl (hc3.1 c4).2.2.2.2.1 (CT.imp (hc3.1 c4).2.2.2.2.2 (fun z5 S5 V5 mc5 ms5 hc6 => ?_))
      refine X_pop dX0_linkTo_87 rfl ?_
      refine X_iload dX0_linkTo_88 rfl ?_
      refine X_if_lt dX0_linkTo_90 (tgt := 97) rfl (fun c7 => ?_) (fun c7 => ?_)
      · refine X_iconst dX0_linkTo_97 (by decide) ?_
        exact X_ret (z := 0) dX0_linkTo_98 rfl (fun _ => Or.inl rfl) (hc6.1 c7)
      · refine X_iconst dX0_linkTo_93 (by decide) ?_
        refine X_goto dX0_linkTo_94 (tgt := 98) rfl ?_
        exact X_ret (z := 1) dX0_linkTo_98 rfl (fun _ => Or.inr rfl) (hc6.2 c7)
    · refine X_iconst dX0_linkTo_48 (by decide) ?_
      refine X_goto dX0_linkTo_49 (tgt := 53) rfl ?_
      refine X_istore dX0_linkTo_53 (by decide) rfl ?_
      refine X_aload_n dX0_linkTo_55 rfl ?_
      refine X_iload_n dX0_linkTo_56 rfl ?_
      refine X_iload dX0_linkTo_57 rfl ?_
      refine X_if_eq dX0_linkTo_59 (tgt := 67) rfl (fun c => absurd c (by decide)) (fun _ => ?_)
      refine X_bipush dX0_linkTo_62 (by decide) (by decide) ?_
      refine X_goto dX0_linkTo_64 (tgt := 69) rfl ?_
      refine X_iload dX0_linkTo_69 rfl ?_
      refine X_if_eq dX0_linkTo_71 (tgt := 78) rfl (fun c => absurd c (by decide)) (fun _ => ?_)
      refine X_iload_n dX0_linkTo_74 rfl ?_
      refine X_goto dX0_linkTo_75 (tgt := 84) rfl ?_
      refine X_invV (ci := 0) (as := [vi x1, vi 17, vi x2]) (st := []) okX0_relink dX0_linkTo_84 km_RX0_96 rfl rfl (Nat.le_of_ble_eq_true rfl) rfl rfl (hc3.2 c4).1 (CT.imp (hc3.2 c4).2 (fun z8 S8 V8 mc8 ms8 hc9 => ?_))
      refine X_pop dX0_linkTo_87 rfl ?_
      refine X_iload dX0_linkTo_88 rfl ?_
      refine X_if_lt dX0_linkTo_90 (tgt := 97) rfl (fun c10 => ?_) (fun c10 => ?_)
      · refine X_iconst dX0_linkTo_97 (by decide) ?_
        exact X_ret (z := 0) dX0_linkTo_98 rfl (fun _ => Or.inl rfl) (hc9.1 c10)
      · refine X_iconst dX0_linkTo_93 (by decide) ?_
        refine X_goto dX0_linkTo_94 (tgt := 98) rfl ?_
        exact X_ret (z := 1) dX0_linkTo_98 rfl (fun _ => Or.inr rfl) (hc9.2 c10)
  · refine X_iload dX0_linkTo_26 rfl ?_
    refine X_bipush dX0_linkTo_28 (by decide) (by decide) ?_
    refine X_icmp_ne dX0_linkTo_30 (tgt := 99) rfl (fun c11 => ?_) (fun c11 => ?_)
    · refine X_aload dX0_linkTo_99 rfl ?_
      refine X_lload_n dX0_linkTo_101 rfl ?_
      refine X_invV (ci := 3) (as := [vl x3]) (st := []) okX3_findConstant dX0_linkTo_102 km_RX0_123 rfl rfl (Nat.le_of_ble_eq_true rfl) rfl rfl ((h.2.2.2.2.2.2.2.2.2 c1).1 c11).1 (CT.imp ((h.2.2.2.2.2.2.2.2.2 c1).1 c11).2 (fun z12 S12 V12 mc12 ms12 hc13 => ?_))
      refine X_istore dX0_linkTo_105 (by decide) rfl ?_
      refine X_iload dX0_linkTo_107 rfl ?_
      refine X_bipush dX0_linkTo_109 (by decide) (by decide) ?_
      refine X_icmp_ne dX0_linkTo_111 (tgt := 135) rfl (fun c14 => ?_) (fun c14 => ?_)
      · refine X_iload dX0_linkTo_135 rfl ?_
        refine X_if_lt dX0_linkTo_137 (tgt := 157) rfl (fun c15 => ?_) (fun c15 => ?_)
        · refine X_aload dX0_linkTo_157 rfl ?_
          refine X_lload_n dX0_linkTo_159 rfl ?_
          refine X_invV (ci := 3) (as := [vl x3]) (st := []) okX3_findHolder dX0_linkTo_160 km_RX0_126 rfl rfl (Nat.le_of_ble_eq_true rfl) rfl rfl ((hc13.1 c14).1 c15).1 (CT.imp ((hc13.1 c14).1 c15).2 (fun z16 S16 V16 mc16 ms16 hc17 => ?_))
          refine X_istore dX0_linkTo_163 (by decide) rfl ?_
          refine X_aload_n dX0_linkTo_165 rfl ?_
          refine X_iload_n dX0_linkTo_166 rfl ?_
          refine X_bipush dX0_linkTo_167 (by decide) (by decide) ?_
          refine X_bipush dX0_linkTo_169 (by decide) (by decide) ?_
          refine X_iload_n dX0_linkTo_171 rfl ?_
          refine X_iconst dX0_linkTo_172 (by decide) ?_
          refine X_imulN dX0_linkTo_173 hc17.1 hc17.2.1 ?_
          refine X_iaddN dX0_linkTo_174 hc17.2.2.1 hc17.2.2.2.1 ?_
          refine X_iload dX0_linkTo_175 rfl ?_
          refine X_iaddN dX0_linkTo_177 hc17.2.2.2.2.1 hc17.2.2.2.2.2.1 ?_
          refine X_invV (ci := 0) (as := [vi x1, vi 16, vi ((100 + (x2 * 4)) + z16)]) (st := []) okX0_relink dX0_linkTo_178 km_RX0_96 rfl rfl (Nat.le_of_ble_eq_true rfl) rfl rfl hc17.2.2.2.2.2.2.1 (CT.imp hc17.2.2.2.2.2.2.2 (fun z18 S18 V18 mc18 ms18 hc19 => ?_))
          refine X_pop dX0_linkTo_181 rfl ?_
          refine X_iload dX0_linkTo_182 rfl ?_
          refine X_if_lt dX0_linkTo_184 (tgt := 191) rfl (fun c20 => ?_) (fun c20 => ?_)
          · refine X_iconst dX0_linkTo_191 (by decide) ?_
            exact X_ret (z := 0) dX0_linkTo_192 rfl (fun _ => Or.inl rfl) (hc19.1 c20)
          · refine X_iconst dX0_linkTo_187 (by decide) ?_
            refine X_goto dX0_linkTo_188 (tgt := 192) rfl ?_
            exact X_ret (z := 1) dX0_linkTo_192 rfl (fun _ => Or.inr rfl) (hc19.2 c20)
        · refine X_aload_n dX0_linkTo_140 rfl ?_
          refine X_iload_n dX0_linkTo_141 rfl ?_
          refine X_bipush dX0_linkTo_142 (by decide) (by decide) ?_
          refine X_iload_n dX0_linkTo_144 rfl ?_
          refine X_bipush dX0_linkTo_145 (by decide) (by decide) ?_
          refine X_imulN dX0_linkTo_147 ((hc13.1 c14).2 c15).1 ((hc13.1 c14).2 c15).2.1 ?_
          refine X_iload dX0_linkTo_148 rfl ?_
          refine X_iaddN dX0_linkTo_150 ((hc13.1 c14).2 c15).2.2.1 ((hc13.1 c14).2 c15).2.2.2.1 ?_
          refine X_invV (ci := 0) (as := [vi x1, vi 15, vi ((x2 * 24) + z12)]) (st := []) okX0_relink dX0_linkTo_151 km_RX0_96 rfl rfl (Nat.le_of_ble_eq_true rfl) rfl rfl ((hc13.1 c14).2 c15).2.2.2.2.1 (CT.imp ((hc13.1 c14).2 c15).2.2.2.2.2 (fun z21 S21 V21 mc21 ms21 hc22 => ?_))
          refine X_pop dX0_linkTo_154 rfl ?_
          refine X_iconst dX0_linkTo_155 (by decide) ?_
          exact X_ret (z := 1) dX0_linkTo_156 rfl (fun _ => Or.inr rfl) hc22
      · refine X_aload_n dX0_linkTo_114 rfl ?_
        refine X_iload_n dX0_linkTo_115 rfl ?_
        refine X_iload dX0_linkTo_116 rfl ?_
        refine X_iload dX0_linkTo_118 rfl ?_
        refine X_invV (ci := 0) (as := [vi x1, vi (V (V (V x0 3) 0) x1), vi z12]) (st := []) okX0_relink dX0_linkTo_120 km_RX0_96 rfl rfl (Nat.le_of_ble_eq_true rfl) rfl rfl (hc13.2 c14).1 (CT.imp (hc13.2 c14).2 (fun z23 S23 V23 mc23 ms23 hc24 => ?_))
        refine X_pop dX0_linkTo_123 rfl ?_
        refine X_iload dX0_linkTo_124 rfl ?_
        refine X_if_lt dX0_linkTo_126 (tgt := 133) rfl (fun c25 => ?_) (fun c25 => ?_)
        · refine X_iconst dX0_linkTo_133 (by decide) ?_
          exact X_ret (z := 0) dX0_linkTo_134 rfl (fun _ => Or.inl rfl) (hc24.1 c25)
        · refine X_iconst dX0_linkTo_129 (by decide) ?_
          refine X_goto dX0_linkTo_130 (tgt := 134) rfl ?_
          exact X_ret (z := 1) dX0_linkTo_134 rfl (fun _ => Or.inr rfl) (hc24.2 c25)
    · refine X_aload dX0_linkTo_33 rfl ?_
      refine X_lload_n dX0_linkTo_35 rfl ?_
      refine X_invV (ci := 3) (as := [vl x3]) (st := []) okX3_findTable dX0_linkTo_36 km_RX0_120 rfl rfl (Nat.le_of_ble_eq_true rfl) rfl rfl ((h.2.2.2.2.2.2.2.2.2 c1).2 c11).1 (CT.imp ((h.2.2.2.2.2.2.2.2.2 c1).2 c11).2 (fun z26 S26 V26 mc26 ms26 hc27 => ?_))
      refine X_istore dX0_linkTo_39 (by decide) rfl ?_
      refine X_iload dX0_linkTo_41 rfl ?_
      refine X_bipush dX0_linkTo_43 (by decide) (by decide) ?_
      refine X_icmp_ne dX0_linkTo_45 (tgt := 52) rfl (fun c28 => ?_) (fun c28 => ?_)
      · refine X_iconst dX0_linkTo_52 (by decide) ?_
        refine X_istore dX0_linkTo_53 (by decide) rfl ?_
        refine X_aload_n dX0_linkTo_55 rfl ?_
        refine X_iload_n dX0_linkTo_56 rfl ?_
        refine X_iload dX0_linkTo_57 rfl ?_
        refine X_if_eq dX0_linkTo_59 (tgt := 67) rfl (fun _ => ?_) (fun c => absurd (by decide) c)
        refine X_bipush dX0_linkTo_67 (by decide) (by decide) ?_
        refine X_iload dX0_linkTo_69 rfl ?_
        refine X_if_eq dX0_linkTo_71 (tgt := 78) rfl (fun _ => ?_) (fun c => absurd (by decide) c)
        refine X_iload_n dX0_linkTo_78 rfl ?_
        refine X_iconst dX0_linkTo_79 (by decide) ?_
        refine X_imulN dX0_linkTo_80 (hc27.1 c28).1 (hc27.1 c28).2.1 ?_
        refine X_iload dX0_linkTo_81 rfl ?_
        refine X_iaddN dX0_linkTo_83 (hc27.1 c28).2.2.1 (hc27.1 c28).2.2.2.1 ?_
        refine X_invV (ci := 0) (as := [vi x1, vi 18, vi ((x2 * 4) + z26)]) (st := []) okX0_relink dX0_linkTo_84 km_RX0_96 rfl rfl (Nat.le_of_ble_eq_true rfl) rfl rfl (hc27.1 c28).2.2.2.2.1 (CT.imp (hc27.1 c28).2.2.2.2.2 (fun z29 S29 V29 mc29 ms29 hc30 => ?_))
        refine X_pop dX0_linkTo_87 rfl ?_
        refine X_iload dX0_linkTo_88 rfl ?_
        refine X_if_lt dX0_linkTo_90 (tgt := 97) rfl (fun c31 => ?_) (fun c31 => ?_)
        · refine X_iconst dX0_linkTo_97 (by decide) ?_
          exact X_ret (z := 0) dX0_linkTo_98 rfl (fun _ => Or.inl rfl) (hc30.1 c31)
        · refine X_iconst dX0_linkTo_93 (by decide) ?_
          refine X_goto dX0_linkTo_94 (tgt := 98) rfl ?_
          exact X_ret (z := 1) dX0_linkTo_98 rfl (fun _ => Or.inr rfl) (hc30.2 c31)
      · refine X_iconst dX0_linkTo_48 (by decide) ?_
        refine X_goto dX0_linkTo_49 (tgt := 53) rfl ?_
        refine X_istore dX0_linkTo_53 (by decide) rfl ?_
        refine X_aload_n dX0_linkTo_55 rfl ?_
        refine X_iload_n dX0_linkTo_56 rfl ?_
        refine X_iload dX0_linkTo_57 rfl ?_
        refine X_if_eq dX0_linkTo_59 (tgt := 67) rfl (fun c => absurd c (by decide)) (fun _ => ?_)
        refine X_bipush dX0_linkTo_62 (by decide) (by decide) ?_
        refine X_goto dX0_linkTo_64 (tgt := 69) rfl ?_
        refine X_iload dX0_linkTo_69 rfl ?_
        refine X_if_eq dX0_linkTo_71 (tgt := 78) rfl (fun c => absurd c (by decide)) (fun _ => ?_)
        refine X_iload_n dX0_linkTo_74 rfl ?_
        refine X_goto dX0_linkTo_75 (tgt := 84) rfl ?_
        refine X_invV (ci := 0) (as := [vi x1, vi 17, vi x2]) (st := []) okX0_relink dX0_linkTo_84 km_RX0_96 rfl rfl (Nat.le_of_ble_eq_true rfl) rfl rfl (hc27.2 c28).1 (CT.imp (hc27.2 c28).2 (fun z32 S32 V32 mc32 ms32 hc33 => ?_))
        refine X_pop dX0_linkTo_87 rfl ?_
        refine X_iload dX0_linkTo_88 rfl ?_
        refine X_if_lt dX0_linkTo_90 (tgt := 97) rfl (fun c34 => ?_) (fun c34 => ?_)
        · refine X_iconst dX0_linkTo_97 (by decide) ?_
          exact X_ret (z := 0) dX0_linkTo_98 rfl (fun _ => Or.inl rfl) (hc33.1 c34)
        · refine X_iconst dX0_linkTo_93 (by decide) ?_
          refine X_goto dX0_linkTo_94 (tgt := 98) rfl ?_
          exact X_ret (z := 1) dX0_linkTo_98 rfl (fun _ => Or.inr rfl) (hc33.2 c34)
theorem qX0_linkTo {l : Launch} {G : GT} {Q : Int → Sh → Mem → Prop} {d : Nat} {S : Sh} {V : Mem} {mc ms : Nat} {x0 x1 x2 x3 : Int} (h : 0 ≤ x0 → inI x1 → inI x2 → inL x3 → XJ l G bX0_linkTo Q d 0 [vr x0, vi x1, vi x2, vl x3, vu, vu, vu, vu, vu] [] S V mc ms) : Ct l G bX0_linkTo Q d mc ms [vr x0, vi x1, vi x2, vl x3] S V := Ct.of okX0_linkTo.1 trivial (Nat.le_of_ble_eq_true rfl) (fun hv => h (hv _ (List.mem_of_getElem? (i := 0) rfl)) (hv _ (List.mem_of_getElem? (i := 1) rfl)) (hv _ (List.mem_of_getElem? (i := 2) rfl)) (hv _ (List.mem_of_getElem? (i := 3) rfl)))
set_option maxRecDepth 10000 in
theorem vX0_relink_0 {l : Launch} {G : GT} {Q : Int → Sh → Mem → Prop} {d : Nat} {S : Sh} {V : Mem} {mc ms : Nat} {x0 x1 x2 x3 : Int} (h : S.1 x0 = 1 ∧ S.1 (V x0 3) = 2 ∧ S.1 (V (V x0 3) 0) = 20 ∧ 0 ≤ x1 ∧ x1 < S.2.1 (V (V x0 3) 0) ∧ S.1 (V (V x0 3) 1) = 20 ∧ x1 < S.2.1 (V (V x0 3) 1) ∧ Q (-1) S (up (up V (V (V x0 3) 0) x1 x2) (V (V x0 3) 1) x1 x3)) : XJ l G bX0_relink Q d 0 [vr x0, vi x1, vi x2, vi x3] [] S V mc ms := by
  refine X_aload_n dX0_relink_0 rfl ?_
  refine X_getfield (ci := 0) (k := 3) (v := vr (V x0 3)) dX0_relink_1 rfl (by decide) kf_RX0_21 rfl h.1 ?_
  refine X_getfield (ci := 1) (k := 0) (v := vr (V (V x0 3) 0)) dX0_relink_4 rfl (by decide) kf_RX0_90 rfl h.2.1 ?_
  refine X_iload_n dX0_relink_7 rfl ?_
  refine X_iload_n dX0_relink_8 rfl ?_
  refine X_iastore dX0_relink_9 h.2.2.1 h.2.2.2.1 h.2.2.2.2.1 ?_
  refine X_aload_n dX0_relink_10 rfl ?_
  refine X_getfield (ci := 0) (k := 3) (v := vr (V x0 3)) dX0_relink_11 rfl (by decide) kf_RX0_21 (congrArg vr (up_ne (Or.inl (tag_ne h.1 h.2.2.1 (by decide))))) h.1 ?_
  refine X_getfield (ci := 1) (k := 1) (v := vr (V (V x0 3) 1)) dX0_relink_14 rfl (by decide) kf_RX0_100 (congrArg vr (up_ne (Or.inl (tag_ne h.2.1 h.2.2.1 (by decide))))) h.2.1 ?_
  refine X_iload_n dX0_relink_17 rfl ?_
  refine X_iload_n dX0_relink_18 rfl ?_
  refine X_iastore dX0_relink_19 h.2.2.2.2.2.1 h.2.2.2.1 h.2.2.2.2.2.2.1 ?_
  refine X_iconst dX0_relink_20 (by decide) ?_
  exact X_ret (z := (-1)) dX0_relink_21 rfl (fun hv => vok_h hv) h.2.2.2.2.2.2.2
theorem qX0_relink {l : Launch} {G : GT} {Q : Int → Sh → Mem → Prop} {d : Nat} {S : Sh} {V : Mem} {mc ms : Nat} {x0 x1 x2 x3 : Int} (h : 0 ≤ x0 → inI x1 → inI x2 → inI x3 → XJ l G bX0_relink Q d 0 [vr x0, vi x1, vi x2, vi x3] [] S V mc ms) : Ct l G bX0_relink Q d mc ms [vr x0, vi x1, vi x2, vi x3] S V := Ct.of okX0_relink.1 trivial (Nat.le_of_ble_eq_true rfl) (fun hv => h (hv _ (List.mem_of_getElem? (i := 0) rfl)) (hv _ (List.mem_of_getElem? (i := 1) rfl)) (hv _ (List.mem_of_getElem? (i := 2) rfl)) (hv _ (List.mem_of_getElem? (i := 3) rfl)))
set_option maxRecDepth 10000 in
theorem vX1_init_0 {l : Launch} {G : GT} {Q : Int → Sh → Mem → Prop} {d : Nat} {S : Sh} {V : Mem} {mc ms : Nat} {x0 x1 : Int} (h : x0 ≠ 0 ∧ 1 ≤ d ∧ 0 ≤ (imax x1 0) ∧ (imax x1 0) ≤ 60000 ∧ 1 ≤ mc ∧ (imax x1 0).toNat ≤ ms ∧ (∀ (S1 : Sh) (V1 : Mem) (r1 : Int) (mc1 ms1 : Nat), r1 = S.2.2 + 1 → S1 = nw S 20 (imax x1 0) → V1 = clr V r1 → mc1 = mc - 1 → ms1 = ms - (imax x1 0).toNat → S1.1 x0 = 2 ∧ 1 ≤ d ∧ 0 ≤ (imax x1 0) ∧ (imax x1 0) ≤ 60000 ∧ 1 ≤ mc1 ∧ (imax x1 0).toNat ≤ ms1 ∧ (∀ (S3 : Sh) (V3 : Mem) (r3 : Int) (mc3 ms3 : Nat), r3 = S1.2.2 + 1 → S3 = nw S1 20 (imax x1 0) → V3 = clr (up V1 x0 0 r1) r3 → mc3 = mc1 - 1 → ms3 = ms1 - (imax x1 0).toNat → S3.1 x0 = 2 ∧ Q 0 S3 (up V3 x0 1 r3)))) : XJ l G bX1_init Q d 0 [vr x0, vi x1] [] S V mc ms := by
  refine X_aload_n dX1_init_0 rfl ?_
  refine X_objInit dX1_init_1 ⟨km_RX1_1, k_obj⟩ h.1 (Nat.le_of_ble_eq_true rfl) h.2.1 ?_
  refine X_aload_n dX1_init_4 rfl ?_
  refine X_iload_n dX1_init_5 rfl ?_
  refine X_iconst dX1_init_6 (by decide) ?_
  refine X_mmax dX1_init_7 km_RX1_7 (Nat.le_of_ble_eq_true rfl) h.2.1 ?_
  refine X_newarr (t := 20) dX1_init_10 k_arr.1 rfl (by decide) (by decide) h.2.2.1 h.2.2.2.1 h.2.2.2.2.1 h.2.2.2.2.2.1 ?_
  generalize hShn2 : nw S 20 (imax x1 0) = S1
  generalize hVhn2 : clr V (S.2.2 + 1) = V1
  generalize hrhn2 : S.2.2 + 1 = r1 at hVhn2 ⊢
  generalize hmhn2 : mc - 1 = mc1
  generalize hkhn2 : ms - (imax x1 0).toNat = ms1
  have hn2 := h.2.2.2.2.2.2 S1 V1 r1 mc1 ms1 hrhn2.symm hShn2.symm hVhn2.symm hmhn2.symm hkhn2.symm
  refine X_putfield (ci := 1) (k := 0) (z := r1) dX1_init_12 rfl (by decide) kf_RX1_13 (Or.inr (Or.inr (Or.inr (Or.inr ⟨_, rfl⟩)))) (Or.inr ⟨rfl, rfl, rfl⟩) rfl (fun hv => hv) hn2.1 ?_
  refine X_aload_n dX1_init_15 rfl ?_
  refine X_iload_n dX1_init_16 rfl ?_
  refine X_iconst dX1_init_17 (by decide) ?_
  refine X_mmax dX1_init_18 km_RX1_7 (Nat.le_of_ble_eq_true rfl) hn2.2.1 ?_
  refine X_newarr (t := 20) dX1_init_21 k_arr.1 rfl (by decide) (by decide) hn2.2.2.1 hn2.2.2.2.1 hn2.2.2.2.2.1 hn2.2.2.2.2.2.1 ?_
  generalize hShn4 : nw S1 20 (imax x1 0) = S3
  generalize hVhn4 : clr (up V1 x0 0 r1) (S1.2.2 + 1) = V3
  generalize hrhn4 : S1.2.2 + 1 = r3 at hVhn4 ⊢
  generalize hmhn4 : mc1 - 1 = mc3
  generalize hkhn4 : ms1 - (imax x1 0).toNat = ms3
  have hn4 := hn2.2.2.2.2.2.2 S3 V3 r3 mc3 ms3 hrhn4.symm hShn4.symm hVhn4.symm hmhn4.symm hkhn4.symm
  refine X_putfield (ci := 1) (k := 1) (z := r3) dX1_init_23 rfl (by decide) kf_RX1_19 (Or.inr (Or.inr (Or.inr (Or.inr ⟨_, rfl⟩)))) (Or.inr ⟨rfl, rfl, rfl⟩) rfl (fun hv => hv) hn4.1 ?_
  exact X_ret (z := 0) dX1_init_26 rfl (fun _ => trivial) hn4.2
theorem qX1_init {l : Launch} {G : GT} {Q : Int → Sh → Mem → Prop} {d : Nat} {S : Sh} {V : Mem} {mc ms : Nat} {x0 x1 : Int} (h : 0 ≤ x0 → inI x1 → XJ l G bX1_init Q d 0 [vr x0, vi x1] [] S V mc ms) : Ct l G bX1_init Q d mc ms [vr x0, vi x1] S V := Ct.of okX1_init.1 trivial (Nat.le_of_ble_eq_true rfl) (fun hv => h (hv _ (List.mem_of_getElem? (i := 0) rfl)) (hv _ (List.mem_of_getElem? (i := 1) rfl)))
set_option maxRecDepth 10000 in
theorem vX1_ofSum_0 {l : Launch} {G : GT} {Q : Int → Sh → Mem → Prop} {d : Nat} {S : Sh} {V : Mem} {mc ms : Nat} {x0 : Int} (h : (x0 ≠ 43 → (x0 ≠ 45 → Q 0 S V) ∧ (¬ (x0 ≠ 45) → Q 8 S V)) ∧ (¬ (x0 ≠ 43) → Q 7 S V)) : XJ l G bX1_ofSum Q d 0 [vi x0] [] S V mc ms := by
  refine X_iload_n dX1_ofSum_0 rfl ?_
  refine X_bipush dX1_ofSum_1 (by decide) (by decide) ?_
  refine X_icmp_ne dX1_ofSum_3 (tgt := 11) rfl (fun c1 => ?_) (fun c1 => ?_)
  · refine X_iload_n dX1_ofSum_11 rfl ?_
    refine X_bipush dX1_ofSum_12 (by decide) (by decide) ?_
    refine X_icmp_ne dX1_ofSum_14 (tgt := 22) rfl (fun c2 => ?_) (fun c2 => ?_)
    · refine X_iconst dX1_ofSum_22 (by decide) ?_
      exact X_ret (z := 0) dX1_ofSum_23 rfl (fun hv => vok_h hv) ((h.1 c1).1 c2)
    · refine X_bipush dX1_ofSum_17 (by decide) (by decide) ?_
      refine X_goto dX1_ofSum_19 (tgt := 23) rfl ?_
      exact X_ret (z := 8) dX1_ofSum_23 rfl (fun hv => vok_h hv) ((h.1 c1).2 c2)
  · refine X_bipush dX1_ofSum_6 (by decide) (by decide) ?_
    refine X_goto dX1_ofSum_8 (tgt := 23) rfl ?_
    exact X_ret (z := 7) dX1_ofSum_23 rfl (fun hv => vok_h hv) (h.2 c1)
theorem qX1_ofSum {l : Launch} {G : GT} {Q : Int → Sh → Mem → Prop} {d : Nat} {S : Sh} {V : Mem} {mc ms : Nat} {x0 : Int} (h : inI x0 → XJ l G bX1_ofSum Q d 0 [vi x0] [] S V mc ms) : Ct l G bX1_ofSum Q d mc ms [vi x0] S V := Ct.of okX1_ofSum.1 trivial (Nat.le_of_ble_eq_true rfl) (fun hv => h (hv _ (List.mem_of_getElem? (i := 0) rfl)))
set_option maxRecDepth 10000 in
theorem vX1_ofProduct_0 {l : Launch} {G : GT} {Q : Int → Sh → Mem → Prop} {d : Nat} {S : Sh} {V : Mem} {mc ms : Nat} {x0 : Int} (h : (x0 ≠ 42 → (x0 ≠ 47 → Q 0 S V) ∧ (¬ (x0 ≠ 47) → Q 10 S V)) ∧ (¬ (x0 ≠ 42) → Q 9 S V)) : XJ l G bX1_ofProduct Q d 0 [vi x0] [] S V mc ms := by
  refine X_iload_n dX1_ofProduct_0 rfl ?_
  refine X_bipush dX1_ofProduct_1 (by decide) (by decide) ?_
  refine X_icmp_ne dX1_ofProduct_3 (tgt := 11) rfl (fun c1 => ?_) (fun c1 => ?_)
  · refine X_iload_n dX1_ofProduct_11 rfl ?_
    refine X_bipush dX1_ofProduct_12 (by decide) (by decide) ?_
    refine X_icmp_ne dX1_ofProduct_14 (tgt := 22) rfl (fun c2 => ?_) (fun c2 => ?_)
    · refine X_iconst dX1_ofProduct_22 (by decide) ?_
      exact X_ret (z := 0) dX1_ofProduct_23 rfl (fun hv => vok_h hv) ((h.1 c1).1 c2)
    · refine X_bipush dX1_ofProduct_17 (by decide) (by decide) ?_
      refine X_goto dX1_ofProduct_19 (tgt := 23) rfl ?_
      exact X_ret (z := 10) dX1_ofProduct_23 rfl (fun hv => vok_h hv) ((h.1 c1).2 c2)
  · refine X_bipush dX1_ofProduct_6 (by decide) (by decide) ?_
    refine X_goto dX1_ofProduct_8 (tgt := 23) rfl ?_
    exact X_ret (z := 9) dX1_ofProduct_23 rfl (fun hv => vok_h hv) (h.2 c1)
theorem qX1_ofProduct {l : Launch} {G : GT} {Q : Int → Sh → Mem → Prop} {d : Nat} {S : Sh} {V : Mem} {mc ms : Nat} {x0 : Int} (h : inI x0 → XJ l G bX1_ofProduct Q d 0 [vi x0] [] S V mc ms) : Ct l G bX1_ofProduct Q d mc ms [vi x0] S V := Ct.of okX1_ofProduct.1 trivial (Nat.le_of_ble_eq_true rfl) (fun hv => h (hv _ (List.mem_of_getElem? (i := 0) rfl)))
set_option maxRecDepth 10000 in
theorem vX1_emit_0 {l : Launch} {G : GT} {Q : Int → Sh → Mem → Prop} {d : Nat} {S : Sh} {V : Mem} {mc ms : Nat} {x0 x1 x2 : Int} (h : S.1 x0 = 2 ∧ S.1 (V x0 0) = 20 ∧ ((S.2.1 (V x0 0)) ≤ (V x0 2) → Q 0 S V) ∧ (¬ ((S.2.1 (V x0 0)) ≤ (V x0 2)) → 0 ≤ (V x0 2) ∧ (V x0 2) < S.2.1 (V x0 0) ∧ S.1 (V x0 1) = 20 ∧ (V x0 2) < S.2.1 (V x0 1) ∧ -2147483648 ≤ (V x0 2) + 1 ∧ (V x0 2) + 1 ≤ 2147483647 ∧ Q 0 S (up (up (up V (V x0 0) (V x0 2) x1) (V x0 1) (V x0 2) x2) x0 2 ((V x0 2) + 1)))) : XJ l G bX1_emit Q d 0 [vr x0, vi x1, vi x2] [] S V mc ms := by
  refine X_aload_n dX1_emit_0 rfl ?_
  refine X_getfield (ci := 1) (k := 2) (v := vi (V x0 2)) dX1_emit_1 rfl (by decide) kf_RX1_22 rfl h.1 ?_
  refine X_aload_n dX1_emit_4 rfl ?_
  refine X_getfield (ci := 1) (k := 0) (v := vr (V x0 0)) dX1_emit_5 rfl (by decide) kf_RX1_13 rfl h.1 ?_
  refine X_alen (t := 20) (by decide) dX1_emit_8 h.2.1 ?_
  refine X_icmp_ge dX1_emit_9 (tgt := 42) rfl (fun c1 => ?_) (fun c1 => ?_)
  · exact X_ret (z := 0) dX1_emit_42 rfl (fun _ => trivial) (h.2.2.1 c1)
  · refine X_aload_n dX1_emit_12 rfl ?_
    refine X_getfield (ci := 1) (k := 0) (v := vr (V x0 0)) dX1_emit_13 rfl (by decide) kf_RX1_13 rfl h.1 ?_
    refine X_aload_n dX1_emit_16 rfl ?_
    refine X_getfield (ci := 1) (k := 2) (v := vi (V x0 2)) dX1_emit_17 rfl (by decide) kf_RX1_22 rfl h.1 ?_
    refine X_iload_n dX1_emit_20 rfl ?_
    refine X_iastore dX1_emit_21 h.2.1 (h.2.2.2 c1).1 (h.2.2.2 c1).2.1 ?_
    refine X_aload_n dX1_emit_22 rfl ?_
    refine X_getfield (ci := 1) (k := 1) (v := vr (V x0 1)) dX1_emit_23 rfl (by decide) kf_RX1_19 (congrArg vr (up_ne (Or.inl (tag_ne h.1 h.2.1 (by decide))))) h.1 ?_
    refine X_aload_n dX1_emit_26 rfl ?_
    refine X_getfield (ci := 1) (k := 2) (v := vi (V x0 2)) dX1_emit_27 rfl (by decide) kf_RX1_22 (congrArg vi (up_ne (Or.inl (tag_ne h.1 h.2.1 (by decide))))) h.1 ?_
    refine X_iload_n dX1_emit_30 rfl ?_
    refine X_iastore dX1_emit_31 (h.2.2.2 c1).2.2.1 (h.2.2.2 c1).1 (h.2.2.2 c1).2.2.2.1 ?_
    refine X_aload_n dX1_emit_32 rfl ?_
    refine X_dup dX1_emit_33 (rv_cat _) ?_
    refine X_getfield (ci := 1) (k := 2) (v := vi (V x0 2)) dX1_emit_34 rfl (by decide) kf_RX1_22 (congrArg vi ((up_ne (Or.inl (tag_ne h.1 (h.2.2.2 c1).2.2.1 (by decide)))).trans (up_ne (Or.inl (tag_ne h.1 h.2.1 (by decide)))))) h.1 ?_
    refine X_iconst dX1_emit_37 (by decide) ?_
    refine X_iaddN dX1_emit_38 (h.2.2.2 c1).2.2.2.2.1 (h.2.2.2 c1).2.2.2.2.2.1 ?_
    refine X_putfield (ci := 1) (k := 2) (z := ((V x0 2) + 1)) dX1_emit_39 rfl (by decide) kf_RX1_22 (Or.inl rfl) (Or.inl rfl) rfl (fun hv => hv) h.1 ?_
    exact X_ret (z := 0) dX1_emit_42 rfl (fun _ => trivial) (h.2.2.2 c1).2.2.2.2.2.2
theorem qX1_emit {l : Launch} {G : GT} {Q : Int → Sh → Mem → Prop} {d : Nat} {S : Sh} {V : Mem} {mc ms : Nat} {x0 x1 x2 : Int} (h : 0 ≤ x0 → inI x1 → inI x2 → XJ l G bX1_emit Q d 0 [vr x0, vi x1, vi x2] [] S V mc ms) : Ct l G bX1_emit Q d mc ms [vr x0, vi x1, vi x2] S V := Ct.of okX1_emit.1 trivial (Nat.le_of_ble_eq_true rfl) (fun hv => h (hv _ (List.mem_of_getElem? (i := 0) rfl)) (hv _ (List.mem_of_getElem? (i := 1) rfl)) (hv _ (List.mem_of_getElem? (i := 2) rfl)))
set_option maxRecDepth 10000 in
theorem vX1_copy_0 {l : Launch} {G : GT} {Q : Int → Sh → Mem → Prop} {d : Nat} {S : Sh} {V : Mem} {mc ms : Nat} {x0 : Int} (h : 1 ≤ mc ∧ 3 ≤ ms ∧ (∀ (S1 : Sh) (V1 : Mem) (r1 : Int) (mc1 ms1 : Nat), r1 = S.2.2 + 1 → S1 = nw S 2 0 → V1 = clr V r1 → mc1 = mc - 1 → ms1 = ms - 3 → S1.1 x0 = 2 ∧ r1 ≠ 0 ∧ CT l G bX1_init d mc1 ms1 [vr r1, vi (V1 x0 2)] S1 V1 (fun z3 S3 V3 mc3 ms3 => S3.1 x0 = 2 ∧ S3.1 r1 = 2 ∧ S3.1 (V3 x0 0) = 20 ∧ S3.1 (V3 r1 0) = 20 ∧ 0 ≤ (V3 x0 2) ∧ (V3 x0 2) ≤ S3.2.1 (V3 x0 0) ∧ (V3 x0 2) ≤ S3.2.1 (V3 r1 0) ∧ 2 ≤ d ∧ S3.1 (V3 x0 1) = 20 ∧ S3.1 (V3 r1 1) = 20 ∧ (V3 x0 2) ≤ S3.2.1 (V3 x0 1) ∧ (V3 x0 2) ≤ S3.2.1 (V3 r1 1) ∧ Q r1 S3 (up (swp (swp V3 (V3 r1 0) (fun b => if 0 ≤ b ∧ b < (V3 x0 2) then V3 (V3 x0 0) b else V3 (V3 r1 0) b)) (V3 r1 1) (fun b => if 0 ≤ b ∧ b < (V3 x0 2) then (swp V3 (V3 r1 0) (fun b => if 0 ≤ b ∧ b < (V3 x0 2) then V3 (V3 x0 0) b else V3 (V3 r1 0) b)) (V3 x0 1) b else (swp V3 (V3 r1 0) (fun b => if 0 ≤ b ∧ b < (V3 x0 2) then V3 (V3 x0 0) b else V3 (V3 r1 0) b)) (V3 r1 1) b)) r1 2 (V3 x0 2))))) : XJ l G bX1_copy Q d 0 [vr x0, vu] [] S V mc ms := by
  refine X_newT (t := 2) (ci := 1) rfl dX1_copy_0 rfl ⟨kc_RX1_14, kn_1⟩ kd_1 h.1 h.2.1 ?_
  generalize hShn2 : nw S 2 0 = S1
  generalize hVhn2 : clr V (S.2.2 + 1) = V1
  generalize hrhn2 : S.2.2 + 1 = r1 at hVhn2 ⊢
  generalize hmhn2 : mc - 1 = mc1
  generalize hkhn2 : ms - 3 = ms1
  have hn2 := h.2.2 S1 V1 r1 mc1 ms1 hrhn2.symm hShn2.symm hVhn2.symm hmhn2.symm hkhn2.symm
  refine X_dup dX1_copy_3 (rv_cat _) ?_
  refine X_aload_n dX1_copy_4 rfl ?_
  refine X_getfield (ci := 1) (k := 2) (v := vi (V1 x0 2)) dX1_copy_5 rfl (by decide) kf_RX1_22 rfl hn2.1 ?_
  refine X_invI (as := [vi (V1 x0 2)]) (st := [vr r1]) okX1_init dX1_copy_8 km_RX1_26 rfl rfl (Nat.le_of_ble_eq_true rfl) hn2.2.1 (CT.imp hn2.2.2 (fun z3 S3 V3 mc3 ms3 hc4 => ?_))
  refine X_astore_n dX1_copy_11 (by decide) rfl ?_
  refine X_aload_n dX1_copy_12 rfl ?_
  refine X_getfield (ci := 1) (k := 0) (v := vr (V3 x0 0)) dX1_copy_13 rfl (by decide) kf_RX1_13 rfl hc4.1 ?_
  refine X_iconst dX1_copy_16 (by decide) ?_
  refine X_aload_n dX1_copy_17 rfl ?_
  refine X_getfield (ci := 1) (k := 0) (v := vr (V3 r1 0)) dX1_copy_18 rfl (by decide) kf_RX1_13 rfl hc4.2.1 ?_
  refine X_iconst dX1_copy_21 (by decide) ?_
  refine X_aload_n dX1_copy_22 rfl ?_
  refine X_getfield (ci := 1) (k := 2) (v := vi (V3 x0 2)) dX1_copy_23 rfl (by decide) kf_RX1_22 rfl hc4.1 ?_
  refine X_copy dX1_copy_26 ⟨km_RX1_29, k_cpy⟩ hc4.2.2.1 hc4.2.2.2.1 hc4.2.2.2.2.1 hc4.2.2.2.2.2.1 hc4.2.2.2.2.2.2.1 (Nat.le_of_ble_eq_true rfl) hc4.2.2.2.2.2.2.2.1 ?_
  refine X_aload_n dX1_copy_29 rfl ?_
  refine X_getfield (ci := 1) (k := 1) (v := vr (V3 x0 1)) dX1_copy_30 rfl (by decide) kf_RX1_19 (congrArg vr (swp_ne (tag_ne hc4.1 hc4.2.2.2.1 (by decide)))) hc4.1 ?_
  refine X_iconst dX1_copy_33 (by decide) ?_
  refine X_aload_n dX1_copy_34 rfl ?_
  refine X_getfield (ci := 1) (k := 1) (v := vr (V3 r1 1)) dX1_copy_35 rfl (by decide) kf_RX1_19 (congrArg vr (swp_ne (tag_ne hc4.2.1 hc4.2.2.2.1 (by decide)))) hc4.2.1 ?_
  refine X_iconst dX1_copy_38 (by decide) ?_
  refine X_aload_n dX1_copy_39 rfl ?_
  refine X_getfield (ci := 1) (k := 2) (v := vi (V3 x0 2)) dX1_copy_40 rfl (by decide) kf_RX1_22 (congrArg vi (swp_ne (tag_ne hc4.1 hc4.2.2.2.1 (by decide)))) hc4.1 ?_
  refine X_copy dX1_copy_43 ⟨km_RX1_29, k_cpy⟩ hc4.2.2.2.2.2.2.2.2.1 hc4.2.2.2.2.2.2.2.2.2.1 hc4.2.2.2.2.1 hc4.2.2.2.2.2.2.2.2.2.2.1 hc4.2.2.2.2.2.2.2.2.2.2.2.1 (Nat.le_of_ble_eq_true rfl) hc4.2.2.2.2.2.2.2.1 ?_
  refine X_aload_n dX1_copy_46 rfl ?_
  refine X_aload_n dX1_copy_47 rfl ?_
  refine X_getfield (ci := 1) (k := 2) (v := vi (V3 x0 2)) dX1_copy_48 rfl (by decide) kf_RX1_22 (congrArg vi ((swp_ne (tag_ne hc4.1 hc4.2.2.2.2.2.2.2.2.2.1 (by decide))).trans (swp_ne (tag_ne hc4.1 hc4.2.2.2.1 (by decide))))) hc4.1 ?_
  refine X_putfield (ci := 1) (k := 2) (z := (V3 x0 2)) dX1_copy_51 rfl (by decide) kf_RX1_22 (Or.inl rfl) (Or.inl rfl) rfl (fun hv => hv) hc4.2.1 ?_
  refine X_aload_n dX1_copy_54 rfl ?_
  exact X_ret (z := r1) dX1_copy_55 rfl (fun hv => vok_h hv) hc4.2.2.2.2.2.2.2.2.2.2.2.2
theorem qX1_copy {l : Launch} {G : GT} {Q : Int → Sh → Mem → Prop} {d : Nat} {S : Sh} {V : Mem} {mc ms : Nat} {x0 : Int} (h : 0 ≤ x0 → XJ l G bX1_copy Q d 0 [vr x0, vu] [] S V mc ms) : Ct l G bX1_copy Q d mc ms [vr x0] S V := Ct.of okX1_copy.1 trivial (Nat.le_of_ble_eq_true rfl) (fun hv => h (hv _ (List.mem_of_getElem? (i := 0) rfl)))
set_option maxRecDepth 10000 in
theorem vX2_init_0 {l : Launch} {G : GT} {Q : Int → Sh → Mem → Prop} {d : Nat} {S : Sh} {V : Mem} {mc ms : Nat} {x0 x1 : Int} (h : x0 ≠ 0 ∧ 1 ≤ d ∧ S.1 x0 = 3 ∧ 0 ≤ (4 : Int) ∧ (4 : Int) ≤ 60000 ∧ 1 ≤ mc ∧ (4 : Int).toNat ≤ ms ∧ (∀ (S1 : Sh) (V1 : Mem) (r1 : Int) (mc1 ms1 : Nat), r1 = S.2.2 + 1 → S1 = nw S 20 4 → V1 = clr (up V x0 1 (-1)) r1 → mc1 = mc - 1 → ms1 = ms - (4 : Int).toNat → S1.1 x0 = 3 ∧ CT l G bJ7_fill_53178 d mc1 ms1 [vr r1, vi (-1)] S1 (up (up V1 x0 3 r1) x0 0 x1) (fun z3 S3 V3 mc3 ms3 => Q 0 S3 V3))) : XJ l G bX2_init Q d 0 [vr x0, vl x1, vu] [] S V mc ms := by
  refine X_aload_n dX2_init_0 rfl ?_
  refine X_objInit dX2_init_1 ⟨km_RX2_3, k_obj⟩ h.1 (Nat.le_of_ble_eq_true rfl) h.2.1 ?_
  refine X_aload_n dX2_init_4 rfl ?_
  refine X_iconst dX2_init_5 (by decide) ?_
  refine X_putfield (ci := 2) (k := 1) (z := (-1)) dX2_init_6 rfl (by decide) kf_RX2_9 (Or.inl rfl) (Or.inl rfl) rfl (fun hv => hv) h.2.2.1 ?_
  refine X_aload_n dX2_init_9 rfl ?_
  refine X_iconst dX2_init_10 (by decide) ?_
  refine X_newarr (t := 20) dX2_init_11 k_arr.1 rfl (by decide) (by decide) h.2.2.2.1 h.2.2.2.2.1 h.2.2.2.2.2.1 h.2.2.2.2.2.2.1 ?_
  generalize hShn2 : nw S 20 4 = S1
  generalize hVhn2 : clr (up V x0 1 (-1)) (S.2.2 + 1) = V1
  generalize hrhn2 : S.2.2 + 1 = r1 at hVhn2 ⊢
  generalize hmhn2 : mc - 1 = mc1
  generalize hkhn2 : ms - (4 : Int).toNat = ms1
  have hn2 := h.2.2.2.2.2.2.2 S1 V1 r1 mc1 ms1 hrhn2.symm hShn2.symm hVhn2.symm hmhn2.symm hkhn2.symm
  refine X_putfield (ci := 2) (k := 3) (z := r1) dX2_init_13 rfl (by decide) kf_RX2_15 (Or.inr (Or.inr (Or.inr (Or.inr ⟨_, rfl⟩)))) (Or.inr ⟨rfl, rfl, rfl⟩) rfl (fun hv => hv) hn2.1 ?_
  refine X_aload_n dX2_init_16 rfl ?_
  refine X_lload_n dX2_init_17 rfl ?_
  refine X_putfield (ci := 2) (k := 0) (z := x1) dX2_init_18 rfl (by decide) kf_RX2_19 (Or.inr (Or.inl rfl)) (Or.inr ⟨rfl, rfl, rfl⟩) rfl (fun hv => hv) hn2.1 ?_
  refine X_aload_n dX2_init_21 rfl ?_
  refine X_getfield (ci := 2) (k := 3) (v := vr r1) dX2_init_22 rfl (by decide) kf_RX2_15 (congrArg vr ((up_ne (Or.inr (by decide))).trans up_eq)) hn2.1 ?_
  refine X_iconst dX2_init_25 (by decide) ?_
  refine X_invS (as := [vr r1, vi (-1)]) (st := []) okJ7_fill_53178 dX2_init_26 km_RX2_23 rfl rfl (Nat.le_of_ble_eq_true rfl) (CT.imp hn2.2 (fun z3 S3 V3 mc3 ms3 hc4 => ?_))
  exact X_ret (z := 0) dX2_init_29 rfl (fun _ => trivial) hc4
theorem qX2_init {l : Launch} {G : GT} {Q : Int → Sh → Mem → Prop} {d : Nat} {S : Sh} {V : Mem} {mc ms : Nat} {x0 x1 : Int} (h : 0 ≤ x0 → inL x1 → XJ l G bX2_init Q d 0 [vr x0, vl x1, vu] [] S V mc ms) : Ct l G bX2_init Q d mc ms [vr x0, vl x1] S V := Ct.of okX2_init.1 trivial (Nat.le_of_ble_eq_true rfl) (fun hv => h (hv _ (List.mem_of_getElem? (i := 0) rfl)) (hv _ (List.mem_of_getElem? (i := 1) rfl)))
set_option maxRecDepth 10000 in
theorem vX3_init_0 {l : Launch} {G : GT} {Q : Int → Sh → Mem → Prop} {d : Nat} {S : Sh} {V : Mem} {mc ms : Nat} {x0 x1 : Int} (h : x0 ≠ 0 ∧ 1 ≤ d ∧ 0 ≤ (24 : Int) ∧ (24 : Int) ≤ 60000 ∧ 1 ≤ mc ∧ (24 : Int).toNat ≤ ms ∧ (∀ (S1 : Sh) (V1 : Mem) (r1 : Int) (mc1 ms1 : Nat), r1 = S.2.2 + 1 → S1 = nw S 32 24 → V1 = clr V r1 → mc1 = mc - 1 → ms1 = ms - (24 : Int).toNat → S1.1 x0 = 4 ∧ 0 ≤ (4 : Int) ∧ (4 : Int) ≤ 60000 ∧ 1 ≤ mc1 ∧ (4 : Int).toNat ≤ ms1 ∧ (∀ (S3 : Sh) (V3 : Mem) (r3 : Int) (mc3 ms3 : Nat), r3 = S1.2.2 + 1 → S3 = nw S1 20 4 → V3 = clr (up V1 x0 3 r1) r3 → mc3 = mc1 - 1 → ms3 = ms1 - (4 : Int).toNat → S3.1 x0 = 4 ∧ 0 ≤ (4 : Int) ∧ (4 : Int) ≤ 60000 ∧ 1 ≤ mc3 ∧ (4 : Int).toNat ≤ ms3 ∧ (∀ (S5 : Sh) (V5 : Mem) (r5 : Int) (mc5 ms5 : Nat), r5 = S3.2.2 + 1 → S5 = nw S3 38 4 → V5 = clr (up V3 x0 6 r3) r5 → mc5 = mc3 - 1 → ms5 = ms3 - (4 : Int).toNat → S5.1 x0 = 4 ∧ 0 ≤ (3 : Int) ∧ (3 : Int) ≤ 60000 ∧ 1 ≤ mc5 ∧ (3 : Int).toNat ≤ ms5 ∧ (∀ (S7 : Sh) (V7 : Mem) (r7 : Int) (mc7 ms7 : Nat), r7 = S5.2.2 + 1 → S7 = nw S5 20 3 → V7 = clr (up V5 x0 7 r5) r7 → mc7 = mc5 - 1 → ms7 = ms5 - (3 : Int).toNat → S7.1 x0 = 4 ∧ 0 ≤ (4 : Int) ∧ (4 : Int) ≤ 60000 ∧ 1 ≤ mc7 ∧ (4 : Int).toNat ≤ ms7 ∧ (∀ (S9 : Sh) (V9 : Mem) (r9 : Int) (mc9 ms9 : Nat), r9 = S7.2.2 + 1 → S9 = nw S7 22 4 → V9 = clr (up V7 x0 9 r7) r9 → mc9 = mc7 - 1 → ms9 = ms7 - (4 : Int).toNat → S9.1 x0 = 4 ∧ 0 ≤ (4 : Int) ∧ (4 : Int) ≤ 60000 ∧ 1 ≤ mc9 ∧ (4 : Int).toNat ≤ ms9 ∧ (∀ (S11 : Sh) (V11 : Mem) (r11 : Int) (mc11 ms11 : Nat), r11 = S9.2.2 + 1 → S11 = nw S9 20 4 → V11 = clr (up V9 x0 11 r9) r11 → mc11 = mc9 - 1 → ms11 = ms9 - (4 : Int).toNat → S11.1 x0 = 4 ∧ 0 ≤ (4 : Int) ∧ (4 : Int) ≤ 60000 ∧ 1 ≤ mc11 ∧ (4 : Int).toNat ≤ ms11 ∧ (∀ (S13 : Sh) (V13 : Mem) (r13 : Int) (mc13 ms13 : Nat), r13 = S11.2.2 + 1 → S13 = nw S11 20 4 → V13 = clr (up V11 x0 12 r11) r13 → mc13 = mc11 - 1 → ms13 = ms11 - (4 : Int).toNat → S13.1 x0 = 4 ∧ 0 ≤ (3 : Int) ∧ (3 : Int) ≤ 60000 ∧ 1 ≤ mc13 ∧ (3 : Int).toNat ≤ ms13 ∧ (∀ (S15 : Sh) (V15 : Mem) (r15 : Int) (mc15 ms15 : Nat), r15 = S13.2.2 + 1 → S15 = nw S13 37 3 → V15 = clr (up V13 x0 13 r13) r15 → mc15 = mc13 - 1 → ms15 = ms13 - (3 : Int).toNat → S15.1 x0 = 4 ∧ CT l G bJ7_fill_53178 d mc15 ms15 [vr (V15 x0 6), vi (-1)] S15 (up (up V15 x0 15 r15) x0 0 x1) (fun z17 S17 V17 mc17 ms17 => Q 0 S17 V17)))))))))) : XJ l G bX3_init Q d 0 [vr x0, vl x1, vu] [] S V mc ms := by
  refine X_aload_n dX3_init_0 rfl ?_
  refine X_objInit dX3_init_1 ⟨km_RX3_3, k_obj⟩ h.1 (Nat.le_of_ble_eq_true rfl) h.2.1 ?_
  refine X_aload_n dX3_init_4 rfl ?_
  refine X_bipush dX3_init_5 (by decide) (by decide) ?_
  refine X_anewarr (t := 32) dX3_init_7 kc_RX3_9 (by decide) rfl (by decide) h.2.2.1 h.2.2.2.1 h.2.2.2.2.1 h.2.2.2.2.2.1 ?_
  generalize hShn2 : nw S 32 24 = S1
  generalize hVhn2 : clr V (S.2.2 + 1) = V1
  generalize hrhn2 : S.2.2 + 1 = r1 at hVhn2 ⊢
  generalize hmhn2 : mc - 1 = mc1
  generalize hkhn2 : ms - (24 : Int).toNat = ms1
  have hn2 := h.2.2.2.2.2.2 S1 V1 r1 mc1 ms1 hrhn2.symm hShn2.symm hVhn2.symm hmhn2.symm hkhn2.symm
  refine X_putfield (ci := 3) (k := 3) (z := r1) dX3_init_10 rfl (by decide) kf_RX3_11 (Or.inr (Or.inr (Or.inr (Or.inr ⟨_, rfl⟩)))) (Or.inr ⟨rfl, rfl, rfl⟩) rfl (fun hv => hv) hn2.1 ?_
  refine X_aload_n dX3_init_13 rfl ?_
  refine X_iconst dX3_init_14 (by decide) ?_
  refine X_newarr (t := 20) dX3_init_15 k_arr.1 rfl (by decide) (by decide) hn2.2.1 hn2.2.2.1 hn2.2.2.2.1 hn2.2.2.2.2.1 ?_
  generalize hShn4 : nw S1 20 4 = S3
  generalize hVhn4 : clr (up V1 x0 3 r1) (S1.2.2 + 1) = V3
  generalize hrhn4 : S1.2.2 + 1 = r3 at hVhn4 ⊢
  generalize hmhn4 : mc1 - 1 = mc3
  generalize hkhn4 : ms1 - (4 : Int).toNat = ms3
  have hn4 := hn2.2.2.2.2.2 S3 V3 r3 mc3 ms3 hrhn4.symm hShn4.symm hVhn4.symm hmhn4.symm hkhn4.symm
  refine X_putfield (ci := 3) (k := 6) (z := r3) dX3_init_17 rfl (by decide) kf_RX3_17 (Or.inr (Or.inr (Or.inr (Or.inr ⟨_, rfl⟩)))) (Or.inr ⟨rfl, rfl, rfl⟩) rfl (fun hv => hv) hn4.1 ?_
  refine X_aload_n dX3_init_20 rfl ?_
  refine X_iconst dX3_init_21 (by decide) ?_
  refine X_anewarr (t := 38) dX3_init_22 kc_RX3_21 (by decide) rfl (by decide) hn4.2.1 hn4.2.2.1 hn4.2.2.2.1 hn4.2.2.2.2.1 ?_
  generalize hShn6 : nw S3 38 4 = S5
  generalize hVhn6 : clr (up V3 x0 6 r3) (S3.2.2 + 1) = V5
  generalize hrhn6 : S3.2.2 + 1 = r5 at hVhn6 ⊢
  generalize hmhn6 : mc3 - 1 = mc5
  generalize hkhn6 : ms3 - (4 : Int).toNat = ms5
  have hn6 := hn4.2.2.2.2.2 S5 V5 r5 mc5 ms5 hrhn6.symm hShn6.symm hVhn6.symm hmhn6.symm hkhn6.symm
  refine X_putfield (ci := 3) (k := 7) (z := r5) dX3_init_25 rfl (by decide) kf_RX3_23 (Or.inr (Or.inr (Or.inr (Or.inr ⟨_, rfl⟩)))) (Or.inr ⟨rfl, rfl, rfl⟩) rfl (fun hv => hv) hn6.1 ?_
  refine X_aload_n dX3_init_28 rfl ?_
  refine X_iconst dX3_init_29 (by decide) ?_
  refine X_newarr (t := 20) dX3_init_30 k_arr.1 rfl (by decide) (by decide) hn6.2.1 hn6.2.2.1 hn6.2.2.2.1 hn6.2.2.2.2.1 ?_
  generalize hShn8 : nw S5 20 3 = S7
  generalize hVhn8 : clr (up V5 x0 7 r5) (S5.2.2 + 1) = V7
  generalize hrhn8 : S5.2.2 + 1 = r7 at hVhn8 ⊢
  generalize hmhn8 : mc5 - 1 = mc7
  generalize hkhn8 : ms5 - (3 : Int).toNat = ms7
  have hn8 := hn6.2.2.2.2.2 S7 V7 r7 mc7 ms7 hrhn8.symm hShn8.symm hVhn8.symm hmhn8.symm hkhn8.symm
  refine X_putfield (ci := 3) (k := 9) (z := r7) dX3_init_32 rfl (by decide) kf_RX3_27 (Or.inr (Or.inr (Or.inr (Or.inr ⟨_, rfl⟩)))) (Or.inr ⟨rfl, rfl, rfl⟩) rfl (fun hv => hv) hn8.1 ?_
  refine X_aload_n dX3_init_35 rfl ?_
  refine X_iconst dX3_init_36 (by decide) ?_
  refine X_newarr (t := 22) dX3_init_37 k_arr.2.2 rfl (by decide) (by decide) hn8.2.1 hn8.2.2.1 hn8.2.2.2.1 hn8.2.2.2.2.1 ?_
  generalize hShn10 : nw S7 22 4 = S9
  generalize hVhn10 : clr (up V7 x0 9 r7) (S7.2.2 + 1) = V9
  generalize hrhn10 : S7.2.2 + 1 = r9 at hVhn10 ⊢
  generalize hmhn10 : mc7 - 1 = mc9
  generalize hkhn10 : ms7 - (4 : Int).toNat = ms9
  have hn10 := hn8.2.2.2.2.2 S9 V9 r9 mc9 ms9 hrhn10.symm hShn10.symm hVhn10.symm hmhn10.symm hkhn10.symm
  refine X_putfield (ci := 3) (k := 11) (z := r9) dX3_init_39 rfl (by decide) kf_RX3_30 (Or.inr (Or.inr (Or.inr (Or.inr ⟨_, rfl⟩)))) (Or.inr ⟨rfl, rfl, rfl⟩) rfl (fun hv => hv) hn10.1 ?_
  refine X_aload_n dX3_init_42 rfl ?_
  refine X_iconst dX3_init_43 (by decide) ?_
  refine X_newarr (t := 20) dX3_init_44 k_arr.1 rfl (by decide) (by decide) hn10.2.1 hn10.2.2.1 hn10.2.2.2.1 hn10.2.2.2.2.1 ?_
  generalize hShn12 : nw S9 20 4 = S11
  generalize hVhn12 : clr (up V9 x0 11 r9) (S9.2.2 + 1) = V11
  generalize hrhn12 : S9.2.2 + 1 = r11 at hVhn12 ⊢
  generalize hmhn12 : mc9 - 1 = mc11
  generalize hkhn12 : ms9 - (4 : Int).toNat = ms11
  have hn12 := hn10.2.2.2.2.2 S11 V11 r11 mc11 ms11 hrhn12.symm hShn12.symm hVhn12.symm hmhn12.symm hkhn12.symm
  refine X_putfield (ci := 3) (k := 12) (z := r11) dX3_init_46 rfl (by decide) kf_RX3_34 (Or.inr (Or.inr (Or.inr (Or.inr ⟨_, rfl⟩)))) (Or.inr ⟨rfl, rfl, rfl⟩) rfl (fun hv => hv) hn12.1 ?_
  refine X_aload_n dX3_init_49 rfl ?_
  refine X_iconst dX3_init_50 (by decide) ?_
  refine X_newarr (t := 20) dX3_init_51 k_arr.1 rfl (by decide) (by decide) hn12.2.1 hn12.2.2.1 hn12.2.2.2.1 hn12.2.2.2.2.1 ?_
  generalize hShn14 : nw S11 20 4 = S13
  generalize hVhn14 : clr (up V11 x0 12 r11) (S11.2.2 + 1) = V13
  generalize hrhn14 : S11.2.2 + 1 = r13 at hVhn14 ⊢
  generalize hmhn14 : mc11 - 1 = mc13
  generalize hkhn14 : ms11 - (4 : Int).toNat = ms13
  have hn14 := hn12.2.2.2.2.2 S13 V13 r13 mc13 ms13 hrhn14.symm hShn14.symm hVhn14.symm hmhn14.symm hkhn14.symm
  refine X_putfield (ci := 3) (k := 13) (z := r13) dX3_init_53 rfl (by decide) kf_RX3_37 (Or.inr (Or.inr (Or.inr (Or.inr ⟨_, rfl⟩)))) (Or.inr ⟨rfl, rfl, rfl⟩) rfl (fun hv => hv) hn14.1 ?_
  refine X_aload_n dX3_init_56 rfl ?_
  refine X_iconst dX3_init_57 (by decide) ?_
  refine X_anewarr (t := 37) dX3_init_58 kc_RX3_40 (by decide) rfl (by decide) hn14.2.1 hn14.2.2.1 hn14.2.2.2.1 hn14.2.2.2.2.1 ?_
  generalize hShn16 : nw S13 37 3 = S15
  generalize hVhn16 : clr (up V13 x0 13 r13) (S13.2.2 + 1) = V15
  generalize hrhn16 : S13.2.2 + 1 = r15 at hVhn16 ⊢
  generalize hmhn16 : mc13 - 1 = mc15
  generalize hkhn16 : ms13 - (3 : Int).toNat = ms15
  have hn16 := hn14.2.2.2.2.2 S15 V15 r15 mc15 ms15 hrhn16.symm hShn16.symm hVhn16.symm hmhn16.symm hkhn16.symm
  refine X_putfield (ci := 3) (k := 15) (z := r15) dX3_init_61 rfl (by decide) kf_RX3_42 (Or.inr (Or.inr (Or.inr (Or.inr ⟨_, rfl⟩)))) (Or.inr ⟨rfl, rfl, rfl⟩) rfl (fun hv => hv) hn16.1 ?_
  refine X_aload_n dX3_init_64 rfl ?_
  refine X_lload_n dX3_init_65 rfl ?_
  refine X_putfield (ci := 3) (k := 0) (z := x1) dX3_init_66 rfl (by decide) kf_RX3_46 (Or.inr (Or.inl rfl)) (Or.inr ⟨rfl, rfl, rfl⟩) rfl (fun hv => hv) hn16.1 ?_
  refine X_aload_n dX3_init_69 rfl ?_
  refine X_getfield (ci := 3) (k := 6) (v := vr (V15 x0 6)) dX3_init_70 rfl (by decide) kf_RX3_17 (congrArg vr ((up_ne (Or.inr (by decide))).trans (up_ne (Or.inr (by decide))))) hn16.1 ?_
  refine X_iconst dX3_init_73 (by decide) ?_
  refine X_invS (as := [vr (V15 x0 6), vi (-1)]) (st := []) okJ7_fill_53178 dX3_init_74 km_RX3_50 rfl rfl (Nat.le_of_ble_eq_true rfl) (CT.imp hn16.2 (fun z17 S17 V17 mc17 ms17 hc18 => ?_))
  exact X_ret (z := 0) dX3_init_77 rfl (fun _ => trivial) hc18
theorem qX3_init {l : Launch} {G : GT} {Q : Int → Sh → Mem → Prop} {d : Nat} {S : Sh} {V : Mem} {mc ms : Nat} {x0 x1 : Int} (h : 0 ≤ x0 → inL x1 → XJ l G bX3_init Q d 0 [vr x0, vl x1, vu] [] S V mc ms) : Ct l G bX3_init Q d mc ms [vr x0, vl x1] S V := Ct.of okX3_init.1 trivial (Nat.le_of_ble_eq_true rfl) (fun hv => h (hv _ (List.mem_of_getElem? (i := 0) rfl)) (hv _ (List.mem_of_getElem? (i := 1) rfl)))
set_option maxRecDepth 10000 in
theorem vX3_constantAt_0 {l : Launch} {G : GT} {Q : Int → Sh → Mem → Prop} {d : Nat} {S : Sh} {V : Mem} {mc ms : Nat} {x0 x1 : Int} (h : (x1 < 0 → Q 0 S V) ∧ (¬ (x1 < 0) → S.1 x0 = 4 ∧ (x1 < (V x0 4) → S.1 (V x0 3) = 32 ∧ 0 ≤ x1 ∧ x1 < S.2.1 (V x0 3) ∧ Q (V (V x0 3) x1) S V) ∧ (¬ (x1 < (V x0 4)) → Q 0 S V))) : XJ l G bX3_constantAt Q d 0 [vr x0, vi x1] [] S V mc ms := by
  refine X_iload_n dX3_constantAt_0 rfl ?_
  refine X_if_lt dX3_constantAt_1 (tgt := 12) rfl (fun c1 => ?_) (fun c1 => ?_)
  · refine X_aconst_null dX3_constantAt_12 ?_
    refine X_goto dX3_constantAt_13 (tgt := 22) rfl ?_
    exact X_ret (z := 0) dX3_constantAt_22 rfl (fun hv => vok_h hv) (h.1 c1)
  · refine X_iload_n dX3_constantAt_4 rfl ?_
    refine X_aload_n dX3_constantAt_5 rfl ?_
    refine X_getfield (ci := 3) (k := 4) (v := vi (V x0 4)) dX3_constantAt_6 rfl (by decide) kf_RX3_56 rfl (h.2 c1).1 ?_
    refine X_icmp_lt dX3_constantAt_9 (tgt := 16) rfl (fun c2 => ?_) (fun c2 => ?_)
    · refine X_aload_n dX3_constantAt_16 rfl ?_
      refine X_getfield (ci := 3) (k := 3) (v := vr (V x0 3)) dX3_constantAt_17 rfl (by decide) kf_RX3_11 rfl (h.2 c1).1 ?_
      refine X_iload_n dX3_constantAt_20 rfl ?_
      refine X_aaload32 dX3_constantAt_21 ((h.2 c1).2.1 c2).1 ((h.2 c1).2.1 c2).2.1 ((h.2 c1).2.1 c2).2.2.1 ?_
      exact X_ret (z := (V (V x0 3) x1)) dX3_constantAt_22 rfl (fun hv => vok_h hv) ((h.2 c1).2.1 c2).2.2.2
    · refine X_aconst_null dX3_constantAt_12 ?_
      refine X_goto dX3_constantAt_13 (tgt := 22) rfl ?_
      exact X_ret (z := 0) dX3_constantAt_22 rfl (fun hv => vok_h hv) ((h.2 c1).2.2 c2)
theorem qX3_constantAt {l : Launch} {G : GT} {Q : Int → Sh → Mem → Prop} {d : Nat} {S : Sh} {V : Mem} {mc ms : Nat} {x0 x1 : Int} (h : 0 ≤ x0 → inI x1 → XJ l G bX3_constantAt Q d 0 [vr x0, vi x1] [] S V mc ms) : Ct l G bX3_constantAt Q d mc ms [vr x0, vi x1] S V := Ct.of okX3_constantAt.1 trivial (Nat.le_of_ble_eq_true rfl) (fun hv => h (hv _ (List.mem_of_getElem? (i := 0) rfl)) (hv _ (List.mem_of_getElem? (i := 1) rfl)))
set_option maxRecDepth 10000 in
theorem vX3_tableAt_0 {l : Launch} {G : GT} {Q : Int → Sh → Mem → Prop} {d : Nat} {S : Sh} {V : Mem} {mc ms : Nat} {x0 x1 : Int} (h : (x1 < 0 → Q 0 S V) ∧ (¬ (x1 < 0) → S.1 x0 = 4 ∧ (x1 < (V x0 8) → S.1 (V x0 7) = 38 ∧ 0 ≤ x1 ∧ x1 < S.2.1 (V x0 7) ∧ Q (V (V x0 7) x1) S V) ∧ (¬ (x1 < (V x0 8)) → Q 0 S V))) : XJ l G bX3_tableAt Q d 0 [vr x0, vi x1] [] S V mc ms := by
  refine X_iload_n dX3_tableAt_0 rfl ?_
  refine X_if_lt dX3_tableAt_1 (tgt := 12) rfl (fun c1 => ?_) (fun c1 => ?_)
  · refine X_aconst_null dX3_tableAt_12 ?_
    refine X_goto dX3_tableAt_13 (tgt := 22) rfl ?_
    exact X_ret (z := 0) dX3_tableAt_22 rfl (fun hv => vok_h hv) (h.1 c1)
  · refine X_iload_n dX3_tableAt_4 rfl ?_
    refine X_aload_n dX3_tableAt_5 rfl ?_
    refine X_getfield (ci := 3) (k := 8) (v := vi (V x0 8)) dX3_tableAt_6 rfl (by decide) kf_RX3_60 rfl (h.2 c1).1 ?_
    refine X_icmp_lt dX3_tableAt_9 (tgt := 16) rfl (fun c2 => ?_) (fun c2 => ?_)
    · refine X_aload_n dX3_tableAt_16 rfl ?_
      refine X_getfield (ci := 3) (k := 7) (v := vr (V x0 7)) dX3_tableAt_17 rfl (by decide) kf_RX3_23 rfl (h.2 c1).1 ?_
      refine X_iload_n dX3_tableAt_20 rfl ?_
      refine X_aaload38 dX3_tableAt_21 ((h.2 c1).2.1 c2).1 ((h.2 c1).2.1 c2).2.1 ((h.2 c1).2.1 c2).2.2.1 ?_
      exact X_ret (z := (V (V x0 7) x1)) dX3_tableAt_22 rfl (fun hv => vok_h hv) ((h.2 c1).2.1 c2).2.2.2
    · refine X_aconst_null dX3_tableAt_12 ?_
      refine X_goto dX3_tableAt_13 (tgt := 22) rfl ?_
      exact X_ret (z := 0) dX3_tableAt_22 rfl (fun hv => vok_h hv) ((h.2 c1).2.2 c2)
theorem qX3_tableAt {l : Launch} {G : GT} {Q : Int → Sh → Mem → Prop} {d : Nat} {S : Sh} {V : Mem} {mc ms : Nat} {x0 x1 : Int} (h : 0 ≤ x0 → inI x1 → XJ l G bX3_tableAt Q d 0 [vr x0, vi x1] [] S V mc ms) : Ct l G bX3_tableAt Q d mc ms [vr x0, vi x1] S V := Ct.of okX3_tableAt.1 trivial (Nat.le_of_ble_eq_true rfl) (fun hv => h (hv _ (List.mem_of_getElem? (i := 0) rfl)) (hv _ (List.mem_of_getElem? (i := 1) rfl)))
set_option maxRecDepth 10000 in
theorem vX3_switchAt_0 {l : Launch} {G : GT} {Q : Int → Sh → Mem → Prop} {d : Nat} {S : Sh} {V : Mem} {mc ms : Nat} {x0 x1 : Int} (h : (x1 < 0 → Q 0 S V) ∧ (¬ (x1 < 0) → S.1 x0 = 4 ∧ (x1 < (V x0 16) → S.1 (V x0 15) = 37 ∧ 0 ≤ x1 ∧ x1 < S.2.1 (V x0 15) ∧ Q (V (V x0 15) x1) S V) ∧ (¬ (x1 < (V x0 16)) → Q 0 S V))) : XJ l G bX3_switchAt Q d 0 [vr x0, vi x1] [] S V mc ms := by
  refine X_iload_n dX3_switchAt_0 rfl ?_
  refine X_if_lt dX3_switchAt_1 (tgt := 12) rfl (fun c1 => ?_) (fun c1 => ?_)
  · refine X_aconst_null dX3_switchAt_12 ?_
    refine X_goto dX3_switchAt_13 (tgt := 22) rfl ?_
    exact X_ret (z := 0) dX3_switchAt_22 rfl (fun hv => vok_h hv) (h.1 c1)
  · refine X_iload_n dX3_switchAt_4 rfl ?_
    refine X_aload_n dX3_switchAt_5 rfl ?_
    refine X_getfield (ci := 3) (k := 16) (v := vi (V x0 16)) dX3_switchAt_6 rfl (by decide) kf_RX3_63 rfl (h.2 c1).1 ?_
    refine X_icmp_lt dX3_switchAt_9 (tgt := 16) rfl (fun c2 => ?_) (fun c2 => ?_)
    · refine X_aload_n dX3_switchAt_16 rfl ?_
      refine X_getfield (ci := 3) (k := 15) (v := vr (V x0 15)) dX3_switchAt_17 rfl (by decide) kf_RX3_42 rfl (h.2 c1).1 ?_
      refine X_iload_n dX3_switchAt_20 rfl ?_
      refine X_aaload37 dX3_switchAt_21 ((h.2 c1).2.1 c2).1 ((h.2 c1).2.1 c2).2.1 ((h.2 c1).2.1 c2).2.2.1 ?_
      exact X_ret (z := (V (V x0 15) x1)) dX3_switchAt_22 rfl (fun hv => vok_h hv) ((h.2 c1).2.1 c2).2.2.2
    · refine X_aconst_null dX3_switchAt_12 ?_
      refine X_goto dX3_switchAt_13 (tgt := 22) rfl ?_
      exact X_ret (z := 0) dX3_switchAt_22 rfl (fun hv => vok_h hv) ((h.2 c1).2.2 c2)
theorem qX3_switchAt {l : Launch} {G : GT} {Q : Int → Sh → Mem → Prop} {d : Nat} {S : Sh} {V : Mem} {mc ms : Nat} {x0 x1 : Int} (h : 0 ≤ x0 → inI x1 → XJ l G bX3_switchAt Q d 0 [vr x0, vi x1] [] S V mc ms) : Ct l G bX3_switchAt Q d mc ms [vr x0, vi x1] S V := Ct.of okX3_switchAt.1 trivial (Nat.le_of_ble_eq_true rfl) (fun hv => h (hv _ (List.mem_of_getElem? (i := 0) rfl)) (hv _ (List.mem_of_getElem? (i := 1) rfl)))
set_option maxRecDepth 10000 in
theorem vX3_findConstant_0 {l : Launch} {G : GT} {Q : Int → Sh → Mem → Prop} {d : Nat} {S : Sh} {V : Mem} {mc ms : Nat} {x0 x1 : Int} (h : XJ l G bX3_findConstant Q d 2 [vr x0, vl x1, vu, vi 0] [] S V mc ms) : XJ l G bX3_findConstant Q d 0 [vr x0, vl x1, vu, vu] [] S V mc ms := by
  refine X_iconst dX3_findConstant_0 (by decide) ?_
  refine X_istore_n dX3_findConstant_1 (by decide) rfl ?_
  exact h
set_option maxRecDepth 10000 in
theorem vX3_findConstant_2 {l : Launch} {G : GT} {Q : Int → Sh → Mem → Prop} {d : Nat} {S : Sh} {V : Mem} {mc ms : Nat} {x0 x1 x3 : Int} (h : S.1 x0 = 4 ∧ ((V x0 4) ≤ x3 → Q (-1) S V) ∧ (¬ ((V x0 4) ≤ x3) → S.1 (V x0 3) = 32 ∧ 0 ≤ x3 ∧ x3 < S.2.1 (V x0 3) ∧ S.1 (V (V x0 3) x3) = 3 ∧ ((V (V (V x0 3) x3) 0) ≠ x1 → -2147483648 ≤ x3 + 1 ∧ x3 + 1 ≤ 2147483647 ∧ XJ l G bX3_findConstant Q d 2 [vr x0, vl x1, vu, vi (x3 + 1)] [] S V mc ms) ∧ (¬ ((V (V (V x0 3) x3) 0) ≠ x1) → Q x3 S V))) : XJ l G bX3_findConstant Q d 2 [vr x0, vl x1, vu, vi x3] [] S V mc ms := by
  refine X_iload_n dX3_findConstant_2 rfl ?_
  refine X_aload_n dX3_findConstant_3 rfl ?_
  refine X_getfield (ci := 3) (k := 4) (v := vi (V x0 4)) dX3_findConstant_4 rfl (by decide) kf_RX3_56 rfl h.1 ?_
  refine X_icmp_ge dX3_findConstant_7 (tgt := 32) rfl (fun c1 => ?_) (fun c1 => ?_)
  · refine X_iconst dX3_findConstant_32 (by decide) ?_
    exact X_ret (z := (-1)) dX3_findConstant_33 rfl (fun hv => vok_h hv) (h.2.1 c1)
  · refine X_aload_n dX3_findConstant_10 rfl ?_
    refine X_getfield (ci := 3) (k := 3) (v := vr (V x0 3)) dX3_findConstant_11 rfl (by decide) kf_RX3_11 rfl h.1 ?_
    refine X_iload_n dX3_findConstant_14 rfl ?_
    refine X_aaload32 dX3_findConstant_15 (h.2.2 c1).1 (h.2.2 c1).2.1 (h.2.2 c1).2.2.1 ?_
    refine X_getfield (ci := 2) (k := 0) (v := vl (V (V (V x0 3) x3) 0)) dX3_findConstant_16 rfl (by decide) kf_RX3_66 rfl (h.2.2 c1).2.2.2.1 ?_
    refine X_lload_n dX3_findConstant_19 rfl ?_
    refine X_lc_ne dX3_findConstant_20 dX3_findConstant_21 (tgt := 26) rfl (fun c2 => ?_) (fun c2 => ?_)
    · refine X_iincN dX3_findConstant_26 rfl (by decide) rfl (e := x3 + 1) rfl ((h.2.2 c1).2.2.2.2.1 c2).1 ((h.2.2 c1).2.2.2.2.1 c2).2.1 ?_
      refine X_goto dX3_findConstant_29 (tgt := 2) rfl ?_
      exact ((h.2.2 c1).2.2.2.2.1 c2).2.2
    · refine X_iload_n dX3_findConstant_24 rfl ?_
      exact X_ret (z := x3) dX3_findConstant_25 rfl (fun hv => vok_h hv) ((h.2.2 c1).2.2.2.2.2 c2)
theorem qX3_findConstant {l : Launch} {G : GT} {Q : Int → Sh → Mem → Prop} {d : Nat} {S : Sh} {V : Mem} {mc ms : Nat} {x0 x1 : Int} (h : 0 ≤ x0 → inL x1 → XJ l G bX3_findConstant Q d 0 [vr x0, vl x1, vu, vu] [] S V mc ms) : Ct l G bX3_findConstant Q d mc ms [vr x0, vl x1] S V := Ct.of okX3_findConstant.1 trivial (Nat.le_of_ble_eq_true rfl) (fun hv => h (hv _ (List.mem_of_getElem? (i := 0) rfl)) (hv _ (List.mem_of_getElem? (i := 1) rfl)))
set_option maxRecDepth 10000 in
theorem vX3_findTable_0 {l : Launch} {G : GT} {Q : Int → Sh → Mem → Prop} {d : Nat} {S : Sh} {V : Mem} {mc ms : Nat} {x0 x1 : Int} (h : XJ l G bX3_findTable Q d 2 [vr x0, vl x1, vu, vi 0] [] S V mc ms) : XJ l G bX3_findTable Q d 0 [vr x0, vl x1, vu, vu] [] S V mc ms := by
  refine X_iconst dX3_findTable_0 (by decide) ?_
  refine X_istore_n dX3_findTable_1 (by decide) rfl ?_
  exact h
set_option maxRecDepth 10000 in
theorem vX3_findTable_2 {l : Launch} {G : GT} {Q : Int → Sh → Mem → Prop} {d : Nat} {S : Sh} {V : Mem} {mc ms : Nat} {x0 x1 x3 : Int} (h : S.1 x0 = 4 ∧ ((V x0 8) ≤ x3 → Q (-1) S V) ∧ (¬ ((V x0 8) ≤ x3) → S.1 (V x0 7) = 38 ∧ 0 ≤ x3 ∧ x3 < S.2.1 (V x0 7) ∧ S.1 (V (V x0 7) x3) = 9 ∧ ((V (V (V x0 7) x3) 0) ≠ x1 → -2147483648 ≤ x3 + 1 ∧ x3 + 1 ≤ 2147483647 ∧ XJ l G bX3_findTable Q d 2 [vr x0, vl x1, vu, vi (x3 + 1)] [] S V mc ms) ∧ (¬ ((V (V (V x0 7) x3) 0) ≠ x1) → Q x3 S V))) : XJ l G bX3_findTable Q d 2 [vr x0, vl x1, vu, vi x3] [] S V mc ms := by
  refine X_iload_n dX3_findTable_2 rfl ?_
  refine X_aload_n dX3_findTable_3 rfl ?_
  refine X_getfield (ci := 3) (k := 8) (v := vi (V x0 8)) dX3_findTable_4 rfl (by decide) kf_RX3_60 rfl h.1 ?_
  refine X_icmp_ge dX3_findTable_7 (tgt := 32) rfl (fun c1 => ?_) (fun c1 => ?_)
  · refine X_iconst dX3_findTable_32 (by decide) ?_
    exact X_ret (z := (-1)) dX3_findTable_33 rfl (fun hv => vok_h hv) (h.2.1 c1)
  · refine X_aload_n dX3_findTable_10 rfl ?_
    refine X_getfield (ci := 3) (k := 7) (v := vr (V x0 7)) dX3_findTable_11 rfl (by decide) kf_RX3_23 rfl h.1 ?_
    refine X_iload_n dX3_findTable_14 rfl ?_
    refine X_aaload38 dX3_findTable_15 (h.2.2 c1).1 (h.2.2 c1).2.1 (h.2.2 c1).2.2.1 ?_
    refine X_getfield (ci := 8) (k := 0) (v := vl (V (V (V x0 7) x3) 0)) dX3_findTable_16 rfl (by decide) kf_RX3_67 rfl (h.2.2 c1).2.2.2.1 ?_
    refine X_lload_n dX3_findTable_19 rfl ?_
    refine X_lc_ne dX3_findTable_20 dX3_findTable_21 (tgt := 26) rfl (fun c2 => ?_) (fun c2 => ?_)
    · refine X_iincN dX3_findTable_26 rfl (by decide) rfl (e := x3 + 1) rfl ((h.2.2 c1).2.2.2.2.1 c2).1 ((h.2.2 c1).2.2.2.2.1 c2).2.1 ?_
      refine X_goto dX3_findTable_29 (tgt := 2) rfl ?_
      exact ((h.2.2 c1).2.2.2.2.1 c2).2.2
    · refine X_iload_n dX3_findTable_24 rfl ?_
      exact X_ret (z := x3) dX3_findTable_25 rfl (fun hv => vok_h hv) ((h.2.2 c1).2.2.2.2.2 c2)
theorem qX3_findTable {l : Launch} {G : GT} {Q : Int → Sh → Mem → Prop} {d : Nat} {S : Sh} {V : Mem} {mc ms : Nat} {x0 x1 : Int} (h : 0 ≤ x0 → inL x1 → XJ l G bX3_findTable Q d 0 [vr x0, vl x1, vu, vu] [] S V mc ms) : Ct l G bX3_findTable Q d mc ms [vr x0, vl x1] S V := Ct.of okX3_findTable.1 trivial (Nat.le_of_ble_eq_true rfl) (fun hv => h (hv _ (List.mem_of_getElem? (i := 0) rfl)) (hv _ (List.mem_of_getElem? (i := 1) rfl)))
set_option maxRecDepth 10000 in
theorem vX3_findHolder_0 {l : Launch} {G : GT} {Q : Int → Sh → Mem → Prop} {d : Nat} {S : Sh} {V : Mem} {mc ms : Nat} {x0 x1 : Int} (h : XJ l G bX3_findHolder Q d 2 [vr x0, vl x1, vu, vi 0] [] S V mc ms) : XJ l G bX3_findHolder Q d 0 [vr x0, vl x1, vu, vu] [] S V mc ms := by
  refine X_iconst dX3_findHolder_0 (by decide) ?_
  refine X_istore_n dX3_findHolder_1 (by decide) rfl ?_
  exact h
set_option maxRecDepth 10000 in
theorem vX3_findHolder_2 {l : Launch} {G : GT} {Q : Int → Sh → Mem → Prop} {d : Nat} {S : Sh} {V : Mem} {mc ms : Nat} {x0 x1 x3 : Int} (h : S.1 x0 = 4 ∧ ((V x0 14) ≤ x3 → Q (-1) S V) ∧ (¬ ((V x0 14) ≤ x3) → S.1 (V x0 11) = 22 ∧ 0 ≤ x3 ∧ x3 < S.2.1 (V x0 11) ∧ ((V (V x0 11) x3) ≠ x1 → -2147483648 ≤ x3 + 1 ∧ x3 + 1 ≤ 2147483647 ∧ XJ l G bX3_findHolder Q d 2 [vr x0, vl x1, vu, vi (x3 + 1)] [] S V mc ms) ∧ (¬ ((V (V x0 11) x3) ≠ x1) → Q x3 S V))) : XJ l G bX3_findHolder Q d 2 [vr x0, vl x1, vu, vi x3] [] S V mc ms := by
  refine X_iload_n dX3_findHolder_2 rfl ?_
  refine X_aload_n dX3_findHolder_3 rfl ?_
  refine X_getfield (ci := 3) (k := 14) (v := vi (V x0 14)) dX3_findHolder_4 rfl (by decide) kf_RX3_68 rfl h.1 ?_
  refine X_icmp_ge dX3_findHolder_7 (tgt := 29) rfl (fun c1 => ?_) (fun c1 => ?_)
  · refine X_iconst dX3_findHolder_29 (by decide) ?_
    exact X_ret (z := (-1)) dX3_findHolder_30 rfl (fun hv => vok_h hv) (h.2.1 c1)
  · refine X_aload_n dX3_findHolder_10 rfl ?_
    refine X_getfield (ci := 3) (k := 11) (v := vr (V x0 11)) dX3_findHolder_11 rfl (by decide) kf_RX3_30 rfl h.1 ?_
    refine X_iload_n dX3_findHolder_14 rfl ?_
    refine X_laload dX3_findHolder_15 (h.2.2 c1).1 (h.2.2 c1).2.1 (h.2.2 c1).2.2.1 ?_
    refine X_lload_n dX3_findHolder_16 rfl ?_
    refine X_lc_ne dX3_findHolder_17 dX3_findHolder_18 (tgt := 23) rfl (fun c2 => ?_) (fun c2 => ?_)
    · refine X_iincN dX3_findHolder_23 rfl (by decide) rfl (e := x3 + 1) rfl ((h.2.2 c1).2.2.2.1 c2).1 ((h.2.2 c1).2.2.2.1 c2).2.1 ?_
      refine X_goto dX3_findHolder_26 (tgt := 2) rfl ?_
      exact ((h.2.2 c1).2.2.2.1 c2).2.2
    · refine X_iload_n dX3_findHolder_21 rfl ?_
      exact X_ret (z := x3) dX3_findHolder_22 rfl (fun hv => vok_h hv) ((h.2.2 c1).2.2.2.2 c2)
theorem qX3_findHolder {l : Launch} {G : GT} {Q : Int → Sh → Mem → Prop} {d : Nat} {S : Sh} {V : Mem} {mc ms : Nat} {x0 x1 : Int} (h : 0 ≤ x0 → inL x1 → XJ l G bX3_findHolder Q d 0 [vr x0, vl x1, vu, vu] [] S V mc ms) : Ct l G bX3_findHolder Q d mc ms [vr x0, vl x1] S V := Ct.of okX3_findHolder.1 trivial (Nat.le_of_ble_eq_true rfl) (fun hv => h (hv _ (List.mem_of_getElem? (i := 0) rfl)) (hv _ (List.mem_of_getElem? (i := 1) rfl)))
set_option maxRecDepth 10000 in
theorem vX3_findSwitch_0 {l : Launch} {G : GT} {Q : Int → Sh → Mem → Prop} {d : Nat} {S : Sh} {V : Mem} {mc ms : Nat} {x0 x1 : Int} (h : XJ l G bX3_findSwitch Q d 2 [vr x0, vl x1, vu, vi 0] [] S V mc ms) : XJ l G bX3_findSwitch Q d 0 [vr x0, vl x1, vu, vu] [] S V mc ms := by
  refine X_iconst dX3_findSwitch_0 (by decide) ?_
  refine X_istore_n dX3_findSwitch_1 (by decide) rfl ?_
  exact h
set_option maxRecDepth 10000 in
theorem vX3_findSwitch_2 {l : Launch} {G : GT} {Q : Int → Sh → Mem → Prop} {d : Nat} {S : Sh} {V : Mem} {mc ms : Nat} {x0 x1 x3 : Int} (h : S.1 x0 = 4 ∧ ((V x0 16) ≤ x3 → Q (-1) S V) ∧ (¬ ((V x0 16) ≤ x3) → S.1 (V x0 15) = 37 ∧ 0 ≤ x3 ∧ x3 < S.2.1 (V x0 15) ∧ S.1 (V (V x0 15) x3) = 8 ∧ ((V (V (V x0 15) x3) 0) ≠ x1 → -2147483648 ≤ x3 + 1 ∧ x3 + 1 ≤ 2147483647 ∧ XJ l G bX3_findSwitch Q d 2 [vr x0, vl x1, vu, vi (x3 + 1)] [] S V mc ms) ∧ (¬ ((V (V (V x0 15) x3) 0) ≠ x1) → Q x3 S V))) : XJ l G bX3_findSwitch Q d 2 [vr x0, vl x1, vu, vi x3] [] S V mc ms := by
  refine X_iload_n dX3_findSwitch_2 rfl ?_
  refine X_aload_n dX3_findSwitch_3 rfl ?_
  refine X_getfield (ci := 3) (k := 16) (v := vi (V x0 16)) dX3_findSwitch_4 rfl (by decide) kf_RX3_63 rfl h.1 ?_
  refine X_icmp_ge dX3_findSwitch_7 (tgt := 32) rfl (fun c1 => ?_) (fun c1 => ?_)
  · refine X_iconst dX3_findSwitch_32 (by decide) ?_
    exact X_ret (z := (-1)) dX3_findSwitch_33 rfl (fun hv => vok_h hv) (h.2.1 c1)
  · refine X_aload_n dX3_findSwitch_10 rfl ?_
    refine X_getfield (ci := 3) (k := 15) (v := vr (V x0 15)) dX3_findSwitch_11 rfl (by decide) kf_RX3_42 rfl h.1 ?_
    refine X_iload_n dX3_findSwitch_14 rfl ?_
    refine X_aaload37 dX3_findSwitch_15 (h.2.2 c1).1 (h.2.2 c1).2.1 (h.2.2 c1).2.2.1 ?_
    refine X_getfield (ci := 7) (k := 0) (v := vl (V (V (V x0 15) x3) 0)) dX3_findSwitch_16 rfl (by decide) kf_RX3_71 rfl (h.2.2 c1).2.2.2.1 ?_
    refine X_lload_n dX3_findSwitch_19 rfl ?_
    refine X_lc_ne dX3_findSwitch_20 dX3_findSwitch_21 (tgt := 26) rfl (fun c2 => ?_) (fun c2 => ?_)
    · refine X_iincN dX3_findSwitch_26 rfl (by decide) rfl (e := x3 + 1) rfl ((h.2.2 c1).2.2.2.2.1 c2).1 ((h.2.2 c1).2.2.2.2.1 c2).2.1 ?_
      refine X_goto dX3_findSwitch_29 (tgt := 2) rfl ?_
      exact ((h.2.2 c1).2.2.2.2.1 c2).2.2
    · refine X_iload_n dX3_findSwitch_24 rfl ?_
      exact X_ret (z := x3) dX3_findSwitch_25 rfl (fun hv => vok_h hv) ((h.2.2 c1).2.2.2.2.2 c2)
theorem qX3_findSwitch {l : Launch} {G : GT} {Q : Int → Sh → Mem → Prop} {d : Nat} {S : Sh} {V : Mem} {mc ms : Nat} {x0 x1 : Int} (h : 0 ≤ x0 → inL x1 → XJ l G bX3_findSwitch Q d 0 [vr x0, vl x1, vu, vu] [] S V mc ms) : Ct l G bX3_findSwitch Q d mc ms [vr x0, vl x1] S V := Ct.of okX3_findSwitch.1 trivial (Nat.le_of_ble_eq_true rfl) (fun hv => h (hv _ (List.mem_of_getElem? (i := 0) rfl)) (hv _ (List.mem_of_getElem? (i := 1) rfl)))
set_option maxRecDepth 10000 in
theorem vX3_knows_0 {l : Launch} {G : GT} {Q : Int → Sh → Mem → Prop} {d : Nat} {S : Sh} {V : Mem} {mc ms : Nat} {x0 x1 : Int} (h : S.1 x0 = 4 ∧ CT l G bX3_findConstant d mc ms [vr x0, vl x1] S V (fun z1 S1 V1 mc1 ms1 => (0 ≤ z1 → Q 1 S1 V1) ∧ (¬ (0 ≤ z1) → S1.1 x0 = 4 ∧ CT l G bX3_findTable d mc1 ms1 [vr x0, vl x1] S1 V1 (fun z4 S4 V4 mc4 ms4 => (0 ≤ z4 → Q 1 S4 V4) ∧ (¬ (0 ≤ z4) → S4.1 x0 = 4 ∧ CT l G bX3_findHolder d mc4 ms4 [vr x0, vl x1] S4 V4 (fun z7 S7 V7 mc7 ms7 => (0 ≤ z7 → Q 1 S7 V7) ∧ (¬ (0 ≤ z7) → S7.1 x0 = 4 ∧ CT l G bX3_findSwitch d mc7 ms7 [vr x0, vl x1] S7 V7 (fun z10 S10 V10 mc10 ms10 => (z10 < 0 → Q 0 S10 V10) ∧ (¬ (z10 < 0) → Q 1 S10 V10))))))))) : XJ l G bX3_knows Q d 0 [vr x0, vl x1, vu] [] S V mc ms := by
  refine X_aload_n dX3_knows_0 rfl ?_
  refine X_lload_n dX3_knows_1 rfl ?_
  refine X_invV (ci := 3) (as := [vl x1]) (st := []) okX3_findConstant dX3_knows_2 km_RX3_72 rfl rfl (Nat.le_of_ble_eq_true rfl) rfl rfl h.1 (CT.imp h.2 (fun z1 S1 V1 mc1 ms1 hc2 => ?_))
  refine X_if_ge dX3_knows_5 (tgt := 32) rfl (fun c3 => ?_) (fun c3 => ?_)
  · refine X_iconst dX3_knows_32 (by decide) ?_
    refine X_goto dX3_knows_33 (tgt := 37) rfl ?_
    exact X_ret (z := 1) dX3_knows_37 rfl (fun _ => Or.inr rfl) (hc2.1 c3)
  · refine X_aload_n dX3_knows_8 rfl ?_
    refine X_lload_n dX3_knows_9 rfl ?_
    refine X_invV (ci := 3) (as := [vl x1]) (st := []) okX3_findTable dX3_knows_10 km_RX3_76 rfl rfl (Nat.le_of_ble_eq_true rfl) rfl rfl (hc2.2 c3).1 (CT.imp (hc2.2 c3).2 (fun z4 S4 V4 mc4 ms4 hc5 => ?_))
    refine X_if_ge dX3_knows_13 (tgt := 32) rfl (fun c6 => ?_) (fun c6 => ?_)
    · refine X_iconst dX3_knows_32 (by decide) ?_
      refine X_goto dX3_knows_33 (tgt := 37) rfl ?_
      exact X_ret (z := 1) dX3_knows_37 rfl (fun _ => Or.inr rfl) (hc5.1 c6)
    · refine X_aload_n dX3_knows_16 rfl ?_
      refine X_lload_n dX3_knows_17 rfl ?_
      refine X_invV (ci := 3) (as := [vl x1]) (st := []) okX3_findHolder dX3_knows_18 km_RX3_79 rfl rfl (Nat.le_of_ble_eq_true rfl) rfl rfl (hc5.2 c6).1 (CT.imp (hc5.2 c6).2 (fun z7 S7 V7 mc7 ms7 hc8 => ?_))
      refine X_if_ge dX3_knows_21 (tgt := 32) rfl (fun c9 => ?_) (fun c9 => ?_)
      · refine X_iconst dX3_knows_32 (by decide) ?_
        refine X_goto dX3_knows_33 (tgt := 37) rfl ?_
        exact X_ret (z := 1) dX3_knows_37 rfl (fun _ => Or.inr rfl) (hc8.1 c9)
      · refine X_aload_n dX3_knows_24 rfl ?_
        refine X_lload_n dX3_knows_25 rfl ?_
        refine X_invV (ci := 3) (as := [vl x1]) (st := []) okX3_findSwitch dX3_knows_26 km_RX3_82 rfl rfl (Nat.le_of_ble_eq_true rfl) rfl rfl (hc8.2 c9).1 (CT.imp (hc8.2 c9).2 (fun z10 S10 V10 mc10 ms10 hc11 => ?_))
        refine X_if_lt dX3_knows_29 (tgt := 36) rfl (fun c12 => ?_) (fun c12 => ?_)
        · refine X_iconst dX3_knows_36 (by decide) ?_
          exact X_ret (z := 0) dX3_knows_37 rfl (fun _ => Or.inl rfl) (hc11.1 c12)
        · refine X_iconst dX3_knows_32 (by decide) ?_
          refine X_goto dX3_knows_33 (tgt := 37) rfl ?_
          exact X_ret (z := 1) dX3_knows_37 rfl (fun _ => Or.inr rfl) (hc11.2 c12)
theorem qX3_knows {l : Launch} {G : GT} {Q : Int → Sh → Mem → Prop} {d : Nat} {S : Sh} {V : Mem} {mc ms : Nat} {x0 x1 : Int} (h : 0 ≤ x0 → inL x1 → XJ l G bX3_knows Q d 0 [vr x0, vl x1, vu] [] S V mc ms) : Ct l G bX3_knows Q d mc ms [vr x0, vl x1] S V := Ct.of okX3_knows.1 trivial (Nat.le_of_ble_eq_true rfl) (fun hv => h (hv _ (List.mem_of_getElem? (i := 0) rfl)) (hv _ (List.mem_of_getElem? (i := 1) rfl)))
set_option maxRecDepth 10000 in
theorem vX4_init_0 {l : Launch} {G : GT} {Q : Int → Sh → Mem → Prop} {d : Nat} {S : Sh} {V : Mem} {mc ms : Nat} {x0 : Int} (h : x0 ≠ 0 ∧ 1 ≤ d ∧ 0 ≤ (60 : Int) ∧ (60 : Int) ≤ 60000 ∧ 1 ≤ mc ∧ (60 : Int).toNat ≤ ms ∧ (∀ (S1 : Sh) (V1 : Mem) (r1 : Int) (mc1 ms1 : Nat), r1 = S.2.2 + 1 → S1 = nw S 20 60 → V1 = clr V r1 → mc1 = mc - 1 → ms1 = ms - (60 : Int).toNat → S1.1 x0 = 5 ∧ 0 ≤ (60 : Int) ∧ (60 : Int) ≤ 60000 ∧ 1 ≤ mc1 ∧ (60 : Int).toNat ≤ ms1 ∧ (∀ (S3 : Sh) (V3 : Mem) (r3 : Int) (mc3 ms3 : Nat), r3 = S1.2.2 + 1 → S3 = nw S1 20 60 → V3 = clr (up V1 x0 2 r1) r3 → mc3 = mc1 - 1 → ms3 = ms1 - (60 : Int).toNat → S3.1 x0 = 5 ∧ 0 ≤ (60 : Int) ∧ (60 : Int) ≤ 60000 ∧ 1 ≤ mc3 ∧ (60 : Int).toNat ≤ ms3 ∧ (∀ (S5 : Sh) (V5 : Mem) (r5 : Int) (mc5 ms5 : Nat), r5 = S3.2.2 + 1 → S5 = nw S3 20 60 → V5 = clr (up V3 x0 3 r3) r5 → mc5 = mc3 - 1 → ms5 = ms3 - (60 : Int).toNat → S5.1 x0 = 5 ∧ Q 0 S5 (up V5 x0 4 r5))))) : XJ l G bX4_init Q d 0 [vr x0] [] S V mc ms := by
  refine X_aload_n dX4_init_0 rfl ?_
  refine X_objInit dX4_init_1 ⟨km_RX4_3, k_obj⟩ h.1 (Nat.le_of_ble_eq_true rfl) h.2.1 ?_
  refine X_aload_n dX4_init_4 rfl ?_
  refine X_bipush dX4_init_5 (by decide) (by decide) ?_
  refine X_newarr (t := 20) dX4_init_7 k_arr.1 rfl (by decide) (by decide) h.2.2.1 h.2.2.2.1 h.2.2.2.2.1 h.2.2.2.2.2.1 ?_
  generalize hShn2 : nw S 20 60 = S1
  generalize hVhn2 : clr V (S.2.2 + 1) = V1
  generalize hrhn2 : S.2.2 + 1 = r1 at hVhn2 ⊢
  generalize hmhn2 : mc - 1 = mc1
  generalize hkhn2 : ms - (60 : Int).toNat = ms1
  have hn2 := h.2.2.2.2.2.2 S1 V1 r1 mc1 ms1 hrhn2.symm hShn2.symm hVhn2.symm hmhn2.symm hkhn2.symm
  refine X_putfield (ci := 4) (k := 2) (z := r1) dX4_init_9 rfl (by decide) kf_RX4_9 (Or.inr (Or.inr (Or.inr (Or.inr ⟨_, rfl⟩)))) (Or.inr ⟨rfl, rfl, rfl⟩) rfl (fun hv => hv) hn2.1 ?_
  refine X_aload_n dX4_init_12 rfl ?_
  refine X_bipush dX4_init_13 (by decide) (by decide) ?_
  refine X_newarr (t := 20) dX4_init_15 k_arr.1 rfl (by decide) (by decide) hn2.2.1 hn2.2.2.1 hn2.2.2.2.1 hn2.2.2.2.2.1 ?_
  generalize hShn4 : nw S1 20 60 = S3
  generalize hVhn4 : clr (up V1 x0 2 r1) (S1.2.2 + 1) = V3
  generalize hrhn4 : S1.2.2 + 1 = r3 at hVhn4 ⊢
  generalize hmhn4 : mc1 - 1 = mc3
  generalize hkhn4 : ms1 - (60 : Int).toNat = ms3
  have hn4 := hn2.2.2.2.2.2 S3 V3 r3 mc3 ms3 hrhn4.symm hShn4.symm hVhn4.symm hmhn4.symm hkhn4.symm
  refine X_putfield (ci := 4) (k := 3) (z := r3) dX4_init_17 rfl (by decide) kf_RX4_15 (Or.inr (Or.inr (Or.inr (Or.inr ⟨_, rfl⟩)))) (Or.inr ⟨rfl, rfl, rfl⟩) rfl (fun hv => hv) hn4.1 ?_
  refine X_aload_n dX4_init_20 rfl ?_
  refine X_bipush dX4_init_21 (by decide) (by decide) ?_
  refine X_newarr (t := 20) dX4_init_23 k_arr.1 rfl (by decide) (by decide) hn4.2.1 hn4.2.2.1 hn4.2.2.2.1 hn4.2.2.2.2.1 ?_
  generalize hShn6 : nw S3 20 60 = S5
  generalize hVhn6 : clr (up V3 x0 3 r3) (S3.2.2 + 1) = V5
  generalize hrhn6 : S3.2.2 + 1 = r5 at hVhn6 ⊢
  generalize hmhn6 : mc3 - 1 = mc5
  generalize hkhn6 : ms3 - (60 : Int).toNat = ms5
  have hn6 := hn4.2.2.2.2.2 S5 V5 r5 mc5 ms5 hrhn6.symm hShn6.symm hVhn6.symm hmhn6.symm hkhn6.symm
  refine X_putfield (ci := 4) (k := 4) (z := r5) dX4_init_25 rfl (by decide) kf_RX4_18 (Or.inr (Or.inr (Or.inr (Or.inr ⟨_, rfl⟩)))) (Or.inr ⟨rfl, rfl, rfl⟩) rfl (fun hv => hv) hn6.1 ?_
  exact X_ret (z := 0) dX4_init_28 rfl (fun _ => trivial) hn6.2
theorem qX4_init {l : Launch} {G : GT} {Q : Int → Sh → Mem → Prop} {d : Nat} {S : Sh} {V : Mem} {mc ms : Nat} {x0 : Int} (h : 0 ≤ x0 → XJ l G bX4_init Q d 0 [vr x0] [] S V mc ms) : Ct l G bX4_init Q d mc ms [vr x0] S V := Ct.of okX4_init.1 trivial (Nat.le_of_ble_eq_true rfl) (fun hv => h (hv _ (List.mem_of_getElem? (i := 0) rfl)))
set_option maxRecDepth 10000 in
theorem vX4_readFrom_0 {l : Launch} {G : GT} {Q : Int → Sh → Mem → Prop} {d : Nat} {S : Sh} {V : Mem} {mc ms : Nat} {x0 x1 x2 : Int} (h : S.1 x0 = 5 ∧ XJ l G bX4_readFrom Q d 10 [vr x0, vr x1, vr x2, vi 0, vi 0, vu] [] S (up V x0 1 0) mc ms) : XJ l G bX4_readFrom Q d 0 [vr x0, vr x1, vr x2, vu, vu, vu] [] S V mc ms := by
  refine X_aload_n dX4_readFrom_0 rfl ?_
  refine X_iconst dX4_readFrom_1 (by decide) ?_
  refine X_putfield (ci := 4) (k := 1) (z := 0) dX4_readFrom_2 rfl (by decide) kf_RX4_21 (Or.inl rfl) (Or.inl rfl) rfl (fun hv => hv) h.1 ?_
  refine X_iconst dX4_readFrom_5 (by decide) ?_
  refine X_istore_n dX4_readFrom_6 (by decide) rfl ?_
  refine X_iconst dX4_readFrom_7 (by decide) ?_
  refine X_istore dX4_readFrom_8 (by decide) rfl ?_
  exact h.2
set_option maxRecDepth 10000 in
theorem vX4_readFrom_10 {l : Launch} {G : GT} {Q : Int → Sh → Mem → Prop} {d : Nat} {S : Sh} {V : Mem} {mc ms : Nat} {x0 x1 x2 x3 x4 : Int} (h : S.1 x1 = 10 ∧ ((V x1 3) ≤ x4 → Q (-1) S V) ∧ (¬ ((V x1 3) ≤ x4) → S.1 (V x1 0) = 20 ∧ 0 ≤ x4 ∧ x4 < S.2.1 (V x1 0) ∧ ((V (V x1 0) x4) ≠ 1 → ((V (V x1 0) x4) ≠ 2 → ((V (V x1 0) x4) ≠ 3 → Q x4 S V) ∧ (¬ ((V (V x1 0) x4) ≠ 3) → S.1 (V x1 2) = 22 ∧ x4 < S.2.1 (V x1 2) ∧ S.1 x0 = 5 ∧ CT l G bX4_keepSignal d mc ms [vr x0, vr x2, vl (V (V x1 2) x4)] S V (fun z5 S5 V5 mc5 ms5 => (z5 = 0 → Q x4 S5 V5) ∧ (¬ (z5 = 0) → -2147483648 ≤ x4 + 1 ∧ x4 + 1 ≤ 2147483647 ∧ XJ l G bX4_readFrom Q d 10 [vr x0, vr x1, vr x2, vi 1, vi (x4 + 1), vu] [] S5 V5 mc5 ms5)))) ∧ (¬ ((V (V x1 0) x4) ≠ 2) → (x3 = 0 → ((V (V x1 0) x4) ≠ 3 → Q x4 S V) ∧ (¬ ((V (V x1 0) x4) ≠ 3) → S.1 (V x1 2) = 22 ∧ x4 < S.2.1 (V x1 2) ∧ S.1 x0 = 5 ∧ CT l G bX4_keepSignal d mc ms [vr x0, vr x2, vl (V (V x1 2) x4)] S V (fun z10 S10 V10 mc10 ms10 => (z10 = 0 → Q x4 S10 V10) ∧ (¬ (z10 = 0) → -2147483648 ≤ x4 + 1 ∧ x4 + 1 ≤ 2147483647 ∧ XJ l G bX4_readFrom Q d 10 [vr x0, vr x1, vr x2, vi 1, vi (x4 + 1), vu] [] S10 V10 mc10 ms10)))) ∧ (¬ (x3 = 0) → S.1 x0 = 5 ∧ -2147483648 ≤ (V x0 1) - 1 ∧ (V x0 1) - 1 ≤ 2147483647 ∧ S.1 (V x1 2) = 22 ∧ x4 < S.2.1 (V x1 2) ∧ S.1 (V x0 4) = 20 ∧ 0 ≤ ((V x0 1) - 1) ∧ ((V x0 1) - 1) < S.2.1 (V x0 4) ∧ -2147483648 ≤ x4 + 1 ∧ x4 + 1 ≤ 2147483647 ∧ XJ l G bX4_readFrom Q d 10 [vr x0, vr x1, vr x2, vi 0, vi (x4 + 1), vu] [] S (up V (V x0 4) ((V x0 1) - 1) (wr (V (V x1 2) x4))) mc ms))) ∧ (¬ ((V (V x1 0) x4) ≠ 1) → S.1 x0 = 5 ∧ ((V x0 1) ≤ 0 → Q x4 S V) ∧ (¬ ((V x0 1) ≤ 0) → Q (-1) S V)))) : XJ l G bX4_readFrom Q d 10 [vr x0, vr x1, vr x2, vi x3, vi x4, vu] [] S V mc ms := by
  refine X_iload dX4_readFrom_10 rfl ?_
  refine X_aload_n dX4_readFrom_12 rfl ?_
  refine X_getfield (ci := 9) (k := 3) (v := vi (V x1 3)) dX4_readFrom_13 rfl (by decide) kf_RX4_25 rfl h.1 ?_
  refine X_icmp_ge dX4_readFrom_16 (tgt := 117) rfl (fun c1 => ?_) (fun c1 => ?_)
  · refine X_iconst dX4_readFrom_117 (by decide) ?_
    exact X_ret (z := (-1)) dX4_readFrom_118 rfl (fun hv => vok_h hv) (h.2.1 c1)
  · refine X_aload_n dX4_readFrom_19 rfl ?_
    refine X_getfield (ci := 9) (k := 0) (v := vr (V x1 0)) dX4_readFrom_20 rfl (by decide) kf_RX4_28 rfl h.1 ?_
    refine X_iload dX4_readFrom_23 rfl ?_
    refine X_iaload dX4_readFrom_25 (h.2.2 c1).1 (h.2.2 c1).2.1 (h.2.2 c1).2.2.1 ?_
    refine X_istore dX4_readFrom_26 (by decide) rfl ?_
    refine X_iload dX4_readFrom_28 rfl ?_
    refine X_iconst dX4_readFrom_30 (by decide) ?_
    refine X_icmp_ne dX4_readFrom_31 (tgt := 48) rfl (fun c2 => ?_) (fun c2 => ?_)
    · refine X_iload dX4_readFrom_48 rfl ?_
      refine X_iconst dX4_readFrom_50 (by decide) ?_
      refine X_icmp_ne dX4_readFrom_51 (tgt := 82) rfl (fun c3 => ?_) (fun c3 => ?_)
      · refine X_iload dX4_readFrom_82 rfl ?_
        refine X_iconst dX4_readFrom_84 (by decide) ?_
        refine X_icmp_ne dX4_readFrom_85 (tgt := 108) rfl (fun c4 => ?_) (fun c4 => ?_)
        · refine X_iload dX4_readFrom_108 rfl ?_
          exact X_ret (z := x4) dX4_readFrom_110 rfl (fun hv => vok_h hv) ((((h.2.2 c1).2.2.2.1 c2).1 c3).1 c4)
        · refine X_aload_n dX4_readFrom_88 rfl ?_
          refine X_aload_n dX4_readFrom_89 rfl ?_
          refine X_aload_n dX4_readFrom_90 rfl ?_
          refine X_getfield (ci := 9) (k := 2) (v := vr (V x1 2)) dX4_readFrom_91 rfl (by decide) kf_RX4_31 rfl h.1 ?_
          refine X_iload dX4_readFrom_94 rfl ?_
          refine X_laload dX4_readFrom_96 ((((h.2.2 c1).2.2.2.1 c2).1 c3).2 c4).1 (h.2.2 c1).2.1 ((((h.2.2 c1).2.2.2.1 c2).1 c3).2 c4).2.1 ?_
          refine X_invV (ci := 4) (as := [vr x2, vl (V (V x1 2) x4)]) (st := []) okX4_keepSignal dX4_readFrom_97 km_RX4_35 rfl rfl (Nat.le_of_ble_eq_true rfl) rfl rfl ((((h.2.2 c1).2.2.2.1 c2).1 c3).2 c4).2.2.1 (CT.imp ((((h.2.2 c1).2.2.2.1 c2).1 c3).2 c4).2.2.2 (fun z5 S5 V5 mc5 ms5 hc6 => ?_))
          refine X_if_eq dX4_readFrom_100 (tgt := 108) rfl (fun c7 => ?_) (fun c7 => ?_)
          · refine X_iload dX4_readFrom_108 rfl ?_
            exact X_ret (z := x4) dX4_readFrom_110 rfl (fun hv => vok_h hv) (hc6.1 c7)
          · refine X_iconst dX4_readFrom_103 (by decide) ?_
            refine X_istore_n dX4_readFrom_104 (by decide) rfl ?_
            refine X_goto dX4_readFrom_105 (tgt := 111) rfl ?_
            refine X_iincN dX4_readFrom_111 rfl (by decide) rfl (e := x4 + 1) rfl (hc6.2 c7).1 (hc6.2 c7).2.1 ?_
            refine X_goto dX4_readFrom_114 (tgt := 10) rfl ?_
            exact X_weak [false, false, false, false, false, true] (hc6.2 c7).2.2
      · refine X_iload_n dX4_readFrom_54 rfl ?_
        refine X_if_eq dX4_readFrom_55 (tgt := 82) rfl (fun c8 => ?_) (fun c8 => ?_)
        · refine X_iload dX4_readFrom_82 rfl ?_
          refine X_iconst dX4_readFrom_84 (by decide) ?_
          refine X_icmp_ne dX4_readFrom_85 (tgt := 108) rfl (fun c9 => ?_) (fun c9 => ?_)
          · refine X_iload dX4_readFrom_108 rfl ?_
            exact X_ret (z := x4) dX4_readFrom_110 rfl (fun hv => vok_h hv) (((((h.2.2 c1).2.2.2.1 c2).2 c3).1 c8).1 c9)
          · refine X_aload_n dX4_readFrom_88 rfl ?_
            refine X_aload_n dX4_readFrom_89 rfl ?_
            refine X_aload_n dX4_readFrom_90 rfl ?_
            refine X_getfield (ci := 9) (k := 2) (v := vr (V x1 2)) dX4_readFrom_91 rfl (by decide) kf_RX4_31 rfl h.1 ?_
            refine X_iload dX4_readFrom_94 rfl ?_
            refine X_laload dX4_readFrom_96 (((((h.2.2 c1).2.2.2.1 c2).2 c3).1 c8).2 c9).1 (h.2.2 c1).2.1 (((((h.2.2 c1).2.2.2.1 c2).2 c3).1 c8).2 c9).2.1 ?_
            refine X_invV (ci := 4) (as := [vr x2, vl (V (V x1 2) x4)]) (st := []) okX4_keepSignal dX4_readFrom_97 km_RX4_35 rfl rfl (Nat.le_of_ble_eq_true rfl) rfl rfl (((((h.2.2 c1).2.2.2.1 c2).2 c3).1 c8).2 c9).2.2.1 (CT.imp (((((h.2.2 c1).2.2.2.1 c2).2 c3).1 c8).2 c9).2.2.2 (fun z10 S10 V10 mc10 ms10 hc11 => ?_))
            refine X_if_eq dX4_readFrom_100 (tgt := 108) rfl (fun c12 => ?_) (fun c12 => ?_)
            · refine X_iload dX4_readFrom_108 rfl ?_
              exact X_ret (z := x4) dX4_readFrom_110 rfl (fun hv => vok_h hv) (hc11.1 c12)
            · refine X_iconst dX4_readFrom_103 (by decide) ?_
              refine X_istore_n dX4_readFrom_104 (by decide) rfl ?_
              refine X_goto dX4_readFrom_105 (tgt := 111) rfl ?_
              refine X_iincN dX4_readFrom_111 rfl (by decide) rfl (e := x4 + 1) rfl (hc11.2 c12).1 (hc11.2 c12).2.1 ?_
              refine X_goto dX4_readFrom_114 (tgt := 10) rfl ?_
              exact X_weak [false, false, false, false, false, true] (hc11.2 c12).2.2
        · refine X_aload_n dX4_readFrom_58 rfl ?_
          refine X_getfield (ci := 4) (k := 4) (v := vr (V x0 4)) dX4_readFrom_59 rfl (by decide) kf_RX4_18 rfl ((((h.2.2 c1).2.2.2.1 c2).2 c3).2 c8).1 ?_
          refine X_aload_n dX4_readFrom_62 rfl ?_
          refine X_getfield (ci := 4) (k := 1) (v := vi (V x0 1)) dX4_readFrom_63 rfl (by decide) kf_RX4_21 rfl ((((h.2.2 c1).2.2.2.1 c2).2 c3).2 c8).1 ?_
          refine X_iconst dX4_readFrom_66 (by decide) ?_
          refine X_isubN dX4_readFrom_67 ((((h.2.2 c1).2.2.2.1 c2).2 c3).2 c8).2.1 ((((h.2.2 c1).2.2.2.1 c2).2 c3).2 c8).2.2.1 ?_
          refine X_aload_n dX4_readFrom_68 rfl ?_
          refine X_getfield (ci := 9) (k := 2) (v := vr (V x1 2)) dX4_readFrom_69 rfl (by decide) kf_RX4_31 rfl h.1 ?_
          refine X_iload dX4_readFrom_72 rfl ?_
          refine X_laload dX4_readFrom_74 ((((h.2.2 c1).2.2.2.1 c2).2 c3).2 c8).2.2.2.1 (h.2.2 c1).2.1 ((((h.2.2 c1).2.2.2.1 c2).2 c3).2 c8).2.2.2.2.1 ?_
          refine X_l2i dX4_readFrom_75 ?_
          refine X_iastore dX4_readFrom_76 ((((h.2.2 c1).2.2.2.1 c2).2 c3).2 c8).2.2.2.2.2.1 ((((h.2.2 c1).2.2.2.1 c2).2 c3).2 c8).2.2.2.2.2.2.1 ((((h.2.2 c1).2.2.2.1 c2).2 c3).2 c8).2.2.2.2.2.2.2.1 ?_
          refine X_iconst dX4_readFrom_77 (by decide) ?_
          refine X_istore_n dX4_readFrom_78 (by decide) rfl ?_
          refine X_goto dX4_readFrom_79 (tgt := 111) rfl ?_
          refine X_iincN dX4_readFrom_111 rfl (by decide) rfl (e := x4 + 1) rfl ((((h.2.2 c1).2.2.2.1 c2).2 c3).2 c8).2.2.2.2.2.2.2.2.1 ((((h.2.2 c1).2.2.2.1 c2).2 c3).2 c8).2.2.2.2.2.2.2.2.2.1 ?_
          refine X_goto dX4_readFrom_114 (tgt := 10) rfl ?_
          exact X_weak [false, false, false, false, false, true] ((((h.2.2 c1).2.2.2.1 c2).2 c3).2 c8).2.2.2.2.2.2.2.2.2.2
    · refine X_aload_n dX4_readFrom_34 rfl ?_
      refine X_getfield (ci := 4) (k := 1) (v := vi (V x0 1)) dX4_readFrom_35 rfl (by decide) kf_RX4_21 rfl ((h.2.2 c1).2.2.2.2 c2).1 ?_
      refine X_if_le dX4_readFrom_38 (tgt := 45) rfl (fun c13 => ?_) (fun c13 => ?_)
      · refine X_iload dX4_readFrom_45 rfl ?_
        exact X_ret (z := x4) dX4_readFrom_47 rfl (fun hv => vok_h hv) (((h.2.2 c1).2.2.2.2 c2).2.1 c13)
      · refine X_iconst dX4_readFrom_41 (by decide) ?_
        refine X_goto dX4_readFrom_42 (tgt := 47) rfl ?_
        exact X_ret (z := (-1)) dX4_readFrom_47 rfl (fun hv => vok_h hv) (((h.2.2 c1).2.2.2.2 c2).2.2 c13)
theorem qX4_readFrom {l : Launch} {G : GT} {Q : Int → Sh → Mem → Prop} {d : Nat} {S : Sh} {V : Mem} {mc ms : Nat} {x0 x1 x2 : Int} (h : 0 ≤ x0 → 0 ≤ x1 → 0 ≤ x2 → XJ l G bX4_readFrom Q d 0 [vr x0, vr x1, vr x2, vu, vu, vu] [] S V mc ms) : Ct l G bX4_readFrom Q d mc ms [vr x0, vr x1, vr x2] S V := Ct.of okX4_readFrom.1 trivial (Nat.le_of_ble_eq_true rfl) (fun hv => h (hv _ (List.mem_of_getElem? (i := 0) rfl)) (hv _ (List.mem_of_getElem? (i := 1) rfl)) (hv _ (List.mem_of_getElem? (i := 2) rfl)))
set_option maxRecDepth 10000 in
theorem vX4_keepSignal_0 {l : Launch} {G : GT} {Q : Int → Sh → Mem → Prop} {d : Nat} {S : Sh} {V : Mem} {mc ms : Nat} {x0 x1 x2 : Int} (h : S.1 x0 = 5 ∧ ((V x0 1) < 60 → XJ l G bX4_keepSignal Q d 14 [vr x0, vr x1, vl x2, vu, vi 0, vu, vu] [] S V mc ms) ∧ (¬ ((V x0 1) < 60) → Q 0 S V)) : XJ l G bX4_keepSignal Q d 0 [vr x0, vr x1, vl x2, vu, vu, vu, vu] [] S V mc ms := by
  refine X_aload_n dX4_keepSignal_0 rfl ?_
  refine X_getfield (ci := 4) (k := 1) (v := vi (V x0 1)) dX4_keepSignal_1 rfl (by decide) kf_RX4_21 rfl h.1 ?_
  refine X_bipush dX4_keepSignal_4 (by decide) (by decide) ?_
  refine X_icmp_lt dX4_keepSignal_6 (tgt := 11) rfl (fun c1 => ?_) (fun c1 => ?_)
  · refine X_iconst dX4_keepSignal_11 (by decide) ?_
    refine X_istore dX4_keepSignal_12 (by decide) rfl ?_
    exact (h.2.1 c1)
  · refine X_iconst dX4_keepSignal_9 (by decide) ?_
    exact X_ret (z := 0) dX4_keepSignal_10 rfl (fun _ => Or.inl rfl) (h.2.2 c1)
set_option maxRecDepth 10000 in
theorem vX4_keepSignal_14 {l : Launch} {G : GT} {Q : Int → Sh → Mem → Prop} {d : Nat} {S : Sh} {V : Mem} {mc ms : Nat} {x0 x1 x2 x4 : Int} (h : S.1 x1 = 1 ∧ ((V x1 1) ≤ x4 → Q 0 S V) ∧ (¬ ((V x1 1) ≤ x4) → CT l G bX0_enumAt d mc ms [vr x1, vi x4] S V (fun z2 S2 V2 mc2 ms2 => (z2 ≠ 0 → S2.1 z2 = 4 ∧ CT l G bX3_findConstant d mc2 ms2 [vr z2, vl x2] S2 V2 (fun z5 S5 V5 mc5 ms5 => (z5 < 0 → -2147483648 ≤ x4 + 1 ∧ x4 + 1 ≤ 2147483647 ∧ XJ l G bX4_keepSignal Q d 14 [vr x0, vr x1, vl x2, vu, vi (x4 + 1), vu, vu] [] S5 V5 mc5 ms5) ∧ (¬ (z5 < 0) → S5.1 x0 = 5 ∧ S5.1 (V5 x0 2) = 20 ∧ 0 ≤ (V5 x0 1) ∧ (V5 x0 1) < S5.2.1 (V5 x0 2) ∧ S5.1 (V5 x0 3) = 20 ∧ (V5 x0 1) < S5.2.1 (V5 x0 3) ∧ S5.1 (V5 x0 4) = 20 ∧ (V5 x0 1) < S5.2.1 (V5 x0 4) ∧ -2147483648 ≤ (V5 x0 1) + 1 ∧ (V5 x0 1) + 1 ≤ 2147483647 ∧ Q 1 S5 (up (up (up (up V5 (V5 x0 2) (V5 x0 1) x4) (V5 x0 3) (V5 x0 1) z5) (V5 x0 4) (V5 x0 1) 0) x0 1 ((V5 x0 1) + 1))))) ∧ (¬ (z2 ≠ 0) → -2147483648 ≤ x4 + 1 ∧ x4 + 1 ≤ 2147483647 ∧ XJ l G bX4_keepSignal Q d 14 [vr x0, vr x1, vl x2, vu, vi (x4 + 1), vu, vu] [] S2 V2 mc2 ms2)))) : XJ l G bX4_keepSignal Q d 14 [vr x0, vr x1, vl x2, vu, vi x4, vu, vu] [] S V mc ms := by
  refine X_iload dX4_keepSignal_14 rfl ?_
  refine X_aload_n dX4_keepSignal_16 rfl ?_
  refine X_getfield (ci := 0) (k := 1) (v := vi (V x1 1)) dX4_keepSignal_17 rfl (by decide) kf_RX4_39 rfl h.1 ?_
  refine X_icmp_ge dX4_keepSignal_20 (tgt := 103) rfl (fun c1 => ?_) (fun c1 => ?_)
  · refine X_iconst dX4_keepSignal_103 (by decide) ?_
    exact X_ret (z := 0) dX4_keepSignal_104 rfl (fun _ => Or.inl rfl) (h.2.1 c1)
  · refine X_aload_n dX4_keepSignal_23 rfl ?_
    refine X_iload dX4_keepSignal_24 rfl ?_
    refine X_invV (ci := 0) (as := [vi x4]) (st := []) okX0_enumAt dX4_keepSignal_26 km_RX4_44 rfl rfl (Nat.le_of_ble_eq_true rfl) rfl rfl h.1 (CT.imp (h.2.2 c1) (fun z2 S2 V2 mc2 ms2 hc3 => ?_))
    refine X_astore dX4_keepSignal_29 (by decide) rfl ?_
    refine X_aload dX4_keepSignal_31 rfl ?_
    refine X_ifnonnull dX4_keepSignal_33 (tgt := 40) rfl (fun c4 => ?_) (fun c4 => ?_)
    · refine X_aload dX4_keepSignal_40 rfl ?_
      refine X_lload_n dX4_keepSignal_42 rfl ?_
      refine X_invV (ci := 3) (as := [vl x2]) (st := []) okX3_findConstant dX4_keepSignal_43 km_RX4_48 rfl rfl (Nat.le_of_ble_eq_true rfl) rfl rfl (hc3.1 c4).1 (CT.imp (hc3.1 c4).2 (fun z5 S5 V5 mc5 ms5 hc6 => ?_))
      refine X_istore dX4_keepSignal_46 (by decide) rfl ?_
      refine X_iload dX4_keepSignal_48 rfl ?_
      refine X_if_lt dX4_keepSignal_50 (tgt := 97) rfl (fun c7 => ?_) (fun c7 => ?_)
      · refine X_iincN dX4_keepSignal_97 rfl (by decide) rfl (e := x4 + 1) rfl (hc6.1 c7).1 (hc6.1 c7).2.1 ?_
        refine X_goto dX4_keepSignal_100 (tgt := 14) rfl ?_
        exact X_weak [false, false, false, false, false, true, true] (hc6.1 c7).2.2
      · refine X_aload_n dX4_keepSignal_53 rfl ?_
        refine X_getfield (ci := 4) (k := 2) (v := vr (V5 x0 2)) dX4_keepSignal_54 rfl (by decide) kf_RX4_9 rfl (hc6.2 c7).1 ?_
        refine X_aload_n dX4_keepSignal_57 rfl ?_
        refine X_getfield (ci := 4) (k := 1) (v := vi (V5 x0 1)) dX4_keepSignal_58 rfl (by decide) kf_RX4_21 rfl (hc6.2 c7).1 ?_
        refine X_iload dX4_keepSignal_61 rfl ?_
        refine X_iastore dX4_keepSignal_63 (hc6.2 c7).2.1 (hc6.2 c7).2.2.1 (hc6.2 c7).2.2.2.1 ?_
        refine X_aload_n dX4_keepSignal_64 rfl ?_
        refine X_getfield (ci := 4) (k := 3) (v := vr (V5 x0 3)) dX4_keepSignal_65 rfl (by decide) kf_RX4_15 (congrArg vr (up_ne (Or.inl (tag_ne (hc6.2 c7).1 (hc6.2 c7).2.1 (by decide))))) (hc6.2 c7).1 ?_
        refine X_aload_n dX4_keepSignal_68 rfl ?_
        refine X_getfield (ci := 4) (k := 1) (v := vi (V5 x0 1)) dX4_keepSignal_69 rfl (by decide) kf_RX4_21 (congrArg vi (up_ne (Or.inl (tag_ne (hc6.2 c7).1 (hc6.2 c7).2.1 (by decide))))) (hc6.2 c7).1 ?_
        refine X_iload dX4_keepSignal_72 rfl ?_
        refine X_iastore dX4_keepSignal_74 (hc6.2 c7).2.2.2.2.1 (hc6.2 c7).2.2.1 (hc6.2 c7).2.2.2.2.2.1 ?_
        refine X_aload_n dX4_keepSignal_75 rfl ?_
        refine X_getfield (ci := 4) (k := 4) (v := vr (V5 x0 4)) dX4_keepSignal_76 rfl (by decide) kf_RX4_18 (congrArg vr ((up_ne (Or.inl (tag_ne (hc6.2 c7).1 (hc6.2 c7).2.2.2.2.1 (by decide)))).trans (up_ne (Or.inl (tag_ne (hc6.2 c7).1 (hc6.2 c7).2.1 (by decide)))))) (hc6.2 c7).1 ?_
        refine X_aload_n dX4_keepSignal_79 rfl ?_
        refine X_getfield (ci := 4) (k := 1) (v := vi (V5 x0 1)) dX4_keepSignal_80 rfl (by decide) kf_RX4_21 (congrArg vi ((up_ne (Or.inl (tag_ne (hc6.2 c7).1 (hc6.2 c7).2.2.2.2.1 (by decide)))).trans (up_ne (Or.inl (tag_ne (hc6.2 c7).1 (hc6.2 c7).2.1 (by decide)))))) (hc6.2 c7).1 ?_
        refine X_iconst dX4_keepSignal_83 (by decide) ?_
        refine X_iastore dX4_keepSignal_84 (hc6.2 c7).2.2.2.2.2.2.1 (hc6.2 c7).2.2.1 (hc6.2 c7).2.2.2.2.2.2.2.1 ?_
        refine X_aload_n dX4_keepSignal_85 rfl ?_
        refine X_dup dX4_keepSignal_86 (rv_cat _) ?_
        refine X_getfield (ci := 4) (k := 1) (v := vi (V5 x0 1)) dX4_keepSignal_87 rfl (by decide) kf_RX4_21 (congrArg vi ((up_ne (Or.inl (tag_ne (hc6.2 c7).1 (hc6.2 c7).2.2.2.2.2.2.1 (by decide)))).trans ((up_ne (Or.inl (tag_ne (hc6.2 c7).1 (hc6.2 c7).2.2.2.2.1 (by decide)))).trans (up_ne (Or.inl (tag_ne (hc6.2 c7).1 (hc6.2 c7).2.1 (by decide))))))) (hc6.2 c7).1 ?_
        refine X_iconst dX4_keepSignal_90 (by decide) ?_
        refine X_iaddN dX4_keepSignal_91 (hc6.2 c7).2.2.2.2.2.2.2.2.1 (hc6.2 c7).2.2.2.2.2.2.2.2.2.1 ?_
        refine X_putfield (ci := 4) (k := 1) (z := ((V5 x0 1) + 1)) dX4_keepSignal_92 rfl (by decide) kf_RX4_21 (Or.inl rfl) (Or.inl rfl) rfl (fun hv => hv) (hc6.2 c7).1 ?_
        refine X_iconst dX4_keepSignal_95 (by decide) ?_
        exact X_ret (z := 1) dX4_keepSignal_96 rfl (fun _ => Or.inr rfl) (hc6.2 c7).2.2.2.2.2.2.2.2.2.2
    · refine X_iconst dX4_keepSignal_36 (by decide) ?_
      refine X_goto dX4_keepSignal_37 (tgt := 46) rfl ?_
      refine X_istore dX4_keepSignal_46 (by decide) rfl ?_
      refine X_iload dX4_keepSignal_48 rfl ?_
      refine X_if_lt dX4_keepSignal_50 (tgt := 97) rfl (fun _ => ?_) (fun c => absurd (by decide) c)
      refine X_iincN dX4_keepSignal_97 rfl (by decide) rfl (e := x4 + 1) rfl (hc3.2 c4).1 (hc3.2 c4).2.1 ?_
      refine X_goto dX4_keepSignal_100 (tgt := 14) rfl ?_
      exact X_weak [false, false, false, false, false, true, true] (hc3.2 c4).2.2
theorem qX4_keepSignal {l : Launch} {G : GT} {Q : Int → Sh → Mem → Prop} {d : Nat} {S : Sh} {V : Mem} {mc ms : Nat} {x0 x1 x2 : Int} (h : 0 ≤ x0 → 0 ≤ x1 → inL x2 → XJ l G bX4_keepSignal Q d 0 [vr x0, vr x1, vl x2, vu, vu, vu, vu] [] S V mc ms) : Ct l G bX4_keepSignal Q d mc ms [vr x0, vr x1, vl x2] S V := Ct.of okX4_keepSignal.1 trivial (Nat.le_of_ble_eq_true rfl) (fun hv => h (hv _ (List.mem_of_getElem? (i := 0) rfl)) (hv _ (List.mem_of_getElem? (i := 1) rfl)) (hv _ (List.mem_of_getElem? (i := 2) rfl)))
set_option maxRecDepth 10000 in
theorem vX6_init_0 {l : Launch} {G : GT} {Q : Int → Sh → Mem → Prop} {d : Nat} {S : Sh} {V : Mem} {mc ms : Nat} {x0 x1 x2 x3 : Int} (h : x0 ≠ 0 ∧ 1 ≤ d ∧ 0 ≤ (0 : Int) ∧ (0 : Int) ≤ 60000 ∧ 1 ≤ mc ∧ (0 : Int).toNat ≤ ms ∧ (∀ (S1 : Sh) (V1 : Mem) (r1 : Int) (mc1 ms1 : Nat), r1 = S.2.2 + 1 → S1 = nw S 20 0 → V1 = clr V r1 → mc1 = mc - 1 → ms1 = ms - (0 : Int).toNat → S1.1 x0 = 7 ∧ Q 0 S1 (up (up (up (up V1 x0 3 r1) x0 0 x1) x0 1 x2) x0 2 x3))) : XJ l G bX6_init Q d 0 [vr x0, vi x1, vi x2, vi x3] [] S V mc ms := by
  refine X_aload_n dX6_init_0 rfl ?_
  refine X_objInit dX6_init_1 ⟨km_RX6_3, k_obj⟩ h.1 (Nat.le_of_ble_eq_true rfl) h.2.1 ?_
  refine X_aload_n dX6_init_4 rfl ?_
  refine X_iconst dX6_init_5 (by decide) ?_
  refine X_newarr (t := 20) dX6_init_6 k_arr.1 rfl (by decide) (by decide) h.2.2.1 h.2.2.2.1 h.2.2.2.2.1 h.2.2.2.2.2.1 ?_
  generalize hShn2 : nw S 20 0 = S1
  generalize hVhn2 : clr V (S.2.2 + 1) = V1
  generalize hrhn2 : S.2.2 + 1 = r1 at hVhn2 ⊢
  generalize hmhn2 : mc - 1 = mc1
  generalize hkhn2 : ms - (0 : Int).toNat = ms1
  have hn2 := h.2.2.2.2.2.2 S1 V1 r1 mc1 ms1 hrhn2.symm hShn2.symm hVhn2.symm hmhn2.symm hkhn2.symm
  refine X_putfield (ci := 6) (k := 3) (z := r1) dX6_init_8 rfl (by decide) kf_RX6_9 (Or.inr (Or.inr (Or.inr (Or.inr ⟨_, rfl⟩)))) (Or.inl rfl) rfl (fun hv => hv) hn2.1 ?_
  refine X_aload_n dX6_init_11 rfl ?_
  refine X_iload_n dX6_init_12 rfl ?_
  refine X_putfield (ci := 6) (k := 0) (z := x1) dX6_init_13 rfl (by decide) kf_RX6_15 (Or.inl rfl) (Or.inr ⟨rfl, rfl, rfl⟩) rfl (fun hv => hv) hn2.1 ?_
  refine X_aload_n dX6_init_16 rfl ?_
  refine X_iload_n dX6_init_17 rfl ?_
  refine X_putfield (ci := 6) (k := 1) (z := x2) dX6_init_18 rfl (by decide) kf_RX6_19 (Or.inl rfl) (Or.inr ⟨rfl, rfl, rfl⟩) rfl (fun hv => hv) hn2.1 ?_
  refine X_aload_n dX6_init_21 rfl ?_
  refine X_iload_n dX6_init_22 rfl ?_
  refine X_putfield (ci := 6) (k := 2) (z := x3) dX6_init_23 rfl (by decide) kf_RX6_22 (Or.inl rfl) (Or.inl rfl) rfl (fun hv => hv) hn2.1 ?_
  exact X_ret (z := 0) dX6_init_26 rfl (fun _ => trivial) hn2.2
theorem qX6_init {l : Launch} {G : GT} {Q : Int → Sh → Mem → Prop} {d : Nat} {S : Sh} {V : Mem} {mc ms : Nat} {x0 x1 x2 x3 : Int} (h : 0 ≤ x0 → inI x1 → inI x2 → inI x3 → XJ l G bX6_init Q d 0 [vr x0, vi x1, vi x2, vi x3] [] S V mc ms) : Ct l G bX6_init Q d mc ms [vr x0, vi x1, vi x2, vi x3] S V := Ct.of okX6_init.1 trivial (Nat.le_of_ble_eq_true rfl) (fun hv => h (hv _ (List.mem_of_getElem? (i := 0) rfl)) (hv _ (List.mem_of_getElem? (i := 1) rfl)) (hv _ (List.mem_of_getElem? (i := 2) rfl)) (hv _ (List.mem_of_getElem? (i := 3) rfl)))
set_option maxRecDepth 10000 in
theorem vX6_contains_0 {l : Launch} {G : GT} {Q : Int → Sh → Mem → Prop} {d : Nat} {S : Sh} {V : Mem} {mc ms : Nat} {x0 x1 : Int} (h : S.1 x0 = 7 ∧ ((bAnd (bUshr (V x0 2) x1) 1) = 0 → Q 0 S V) ∧ (¬ ((bAnd (bUshr (V x0 2) x1) 1) = 0) → Q 1 S V)) : XJ l G bX6_contains Q d 0 [vr x0, vi x1] [] S V mc ms := by
  refine X_aload_n dX6_contains_0 rfl ?_
  refine X_getfield (ci := 6) (k := 2) (v := vi (V x0 2)) dX6_contains_1 rfl (by decide) kf_RX6_22 rfl h.1 ?_
  refine X_iload_n dX6_contains_4 rfl ?_
  refine X_iushr dX6_contains_5 ?_
  refine X_iconst dX6_contains_6 (by decide) ?_
  refine X_iand dX6_contains_7 ?_
  refine X_if_eq dX6_contains_8 (tgt := 15) rfl (fun c1 => ?_) (fun c1 => ?_)
  · refine X_iconst dX6_contains_15 (by decide) ?_
    exact X_ret (z := 0) dX6_contains_16 rfl (fun _ => Or.inl rfl) (h.2.1 c1)
  · refine X_iconst dX6_contains_11 (by decide) ?_
    refine X_goto dX6_contains_12 (tgt := 16) rfl ?_
    exact X_ret (z := 1) dX6_contains_16 rfl (fun _ => Or.inr rfl) (h.2.2 c1)
theorem qX6_contains {l : Launch} {G : GT} {Q : Int → Sh → Mem → Prop} {d : Nat} {S : Sh} {V : Mem} {mc ms : Nat} {x0 x1 : Int} (h : 0 ≤ x0 → inI x1 → XJ l G bX6_contains Q d 0 [vr x0, vi x1] [] S V mc ms) : Ct l G bX6_contains Q d mc ms [vr x0, vi x1] S V := Ct.of okX6_contains.1 trivial (Nat.le_of_ble_eq_true rfl) (fun hv => h (hv _ (List.mem_of_getElem? (i := 0) rfl)) (hv _ (List.mem_of_getElem? (i := 1) rfl)))
set_option maxRecDepth 10000 in
theorem vX6_include_0 {l : Launch} {G : GT} {Q : Int → Sh → Mem → Prop} {d : Nat} {S : Sh} {V : Mem} {mc ms : Nat} {x0 x1 : Int} (h : S.1 x0 = 7 ∧ CT l G bX6_contains d mc ms [vr x0, vi x1] S V (fun z1 S1 V1 mc1 ms1 => (z1 ≠ 0 → S1.1 x0 = 7 ∧ Q 0 S1 (up V1 x0 2 (bOr (V1 x0 2) (bShl 1 x1)))) ∧ (¬ (z1 ≠ 0) → S1.1 x0 = 7 ∧ Q 1 S1 (up V1 x0 2 (bOr (V1 x0 2) (bShl 1 x1)))))) : XJ l G bX6_include Q d 0 [vr x0, vi x1, vu] [] S V mc ms := by
  refine X_aload_n dX6_include_0 rfl ?_
  refine X_iload_n dX6_include_1 rfl ?_
  refine X_invV (ci := 6) (as := [vi x1]) (st := []) okX6_contains dX6_include_2 km_RX6_25 rfl rfl (Nat.le_of_ble_eq_true rfl) rfl rfl h.1 (CT.imp h.2 (fun z1 S1 V1 mc1 ms1 hc2 => ?_))
  refine X_if_ne dX6_include_5 (tgt := 12) rfl (fun c3 => ?_) (fun c3 => ?_)
  · refine X_iconst dX6_include_12 (by decide) ?_
    refine X_istore_n dX6_include_13 (by decide) rfl ?_
    refine X_aload_n dX6_include_14 rfl ?_
    refine X_dup dX6_include_15 (rv_cat _) ?_
    refine X_getfield (ci := 6) (k := 2) (v := vi (V1 x0 2)) dX6_include_16 rfl (by decide) kf_RX6_22 rfl (hc2.1 c3).1 ?_
    refine X_iconst dX6_include_19 (by decide) ?_
    refine X_iload_n dX6_include_20 rfl ?_
    refine X_ishl dX6_include_21 ?_
    refine X_ior dX6_include_22 ?_
    refine X_putfield (ci := 6) (k := 2) (z := (bOr (V1 x0 2) (bShl 1 x1))) dX6_include_23 rfl (by decide) kf_RX6_22 (Or.inl rfl) (Or.inl rfl) rfl (fun hv => hv) (hc2.1 c3).1 ?_
    refine X_iload_n dX6_include_26 rfl ?_
    exact X_ret (z := 0) dX6_include_27 rfl (fun _ => Or.inl rfl) (hc2.1 c3).2
  · refine X_iconst dX6_include_8 (by decide) ?_
    refine X_goto dX6_include_9 (tgt := 13) rfl ?_
    refine X_istore_n dX6_include_13 (by decide) rfl ?_
    refine X_aload_n dX6_include_14 rfl ?_
    refine X_dup dX6_include_15 (rv_cat _) ?_
    refine X_getfield (ci := 6) (k := 2) (v := vi (V1 x0 2)) dX6_include_16 rfl (by decide) kf_RX6_22 rfl (hc2.2 c3).1 ?_
    refine X_iconst dX6_include_19 (by decide) ?_
    refine X_iload_n dX6_include_20 rfl ?_
    refine X_ishl dX6_include_21 ?_
    refine X_ior dX6_include_22 ?_
    refine X_putfield (ci := 6) (k := 2) (z := (bOr (V1 x0 2) (bShl 1 x1))) dX6_include_23 rfl (by decide) kf_RX6_22 (Or.inl rfl) (Or.inl rfl) rfl (fun hv => hv) (hc2.2 c3).1 ?_
    refine X_iload_n dX6_include_26 rfl ?_
    exact X_ret (z := 1) dX6_include_27 rfl (fun _ => Or.inr rfl) (hc2.2 c3).2
theorem qX6_include {l : Launch} {G : GT} {Q : Int → Sh → Mem → Prop} {d : Nat} {S : Sh} {V : Mem} {mc ms : Nat} {x0 x1 : Int} (h : 0 ≤ x0 → inI x1 → XJ l G bX6_include Q d 0 [vr x0, vi x1, vu] [] S V mc ms) : Ct l G bX6_include Q d mc ms [vr x0, vi x1] S V := Ct.of okX6_include.1 trivial (Nat.le_of_ble_eq_true rfl) (fun hv => h (hv _ (List.mem_of_getElem? (i := 0) rfl)) (hv _ (List.mem_of_getElem? (i := 1) rfl)))
set_option maxRecDepth 10000 in
theorem vX6_exclude_0 {l : Launch} {G : GT} {Q : Int → Sh → Mem → Prop} {d : Nat} {S : Sh} {V : Mem} {mc ms : Nat} {x0 x1 : Int} (h : S.1 x0 = 7 ∧ CT l G bX6_contains d mc ms [vr x0, vi x1] S V (fun z1 S1 V1 mc1 ms1 => S1.1 x0 = 7 ∧ (z1 = 0 ∨ z1 = 1) ∧ Q z1 S1 (up V1 x0 2 (bAnd (V1 x0 2) (bXor (bShl 1 x1) (-1)))))) : XJ l G bX6_exclude Q d 0 [vr x0, vi x1, vu] [] S V mc ms := by
  refine X_aload_n dX6_exclude_0 rfl ?_
  refine X_iload_n dX6_exclude_1 rfl ?_
  refine X_invV (ci := 6) (as := [vi x1]) (st := []) okX6_contains dX6_exclude_2 km_RX6_25 rfl rfl (Nat.le_of_ble_eq_true rfl) rfl rfl h.1 (CT.imp h.2 (fun z1 S1 V1 mc1 ms1 hc2 => ?_))
  refine X_istore_n dX6_exclude_5 (by decide) rfl ?_
  refine X_aload_n dX6_exclude_6 rfl ?_
  refine X_dup dX6_exclude_7 (rv_cat _) ?_
  refine X_getfield (ci := 6) (k := 2) (v := vi (V1 x0 2)) dX6_exclude_8 rfl (by decide) kf_RX6_22 rfl hc2.1 ?_
  refine X_iconst dX6_exclude_11 (by decide) ?_
  refine X_iload_n dX6_exclude_12 rfl ?_
  refine X_ishl dX6_exclude_13 ?_
  refine X_iconst dX6_exclude_14 (by decide) ?_
  refine X_ixor dX6_exclude_15 ?_
  refine X_iand dX6_exclude_16 ?_
  refine X_putfield (ci := 6) (k := 2) (z := (bAnd (V1 x0 2) (bXor (bShl 1 x1) (-1)))) dX6_exclude_17 rfl (by decide) kf_RX6_22 (Or.inl rfl) (Or.inl rfl) rfl (fun hv => hv) hc2.1 ?_
  refine X_iload_n dX6_exclude_20 rfl ?_
  exact X_ret (z := z1) dX6_exclude_21 rfl (fun _ => hc2.2.1) hc2.2.2
theorem qX6_exclude {l : Launch} {G : GT} {Q : Int → Sh → Mem → Prop} {d : Nat} {S : Sh} {V : Mem} {mc ms : Nat} {x0 x1 : Int} (h : 0 ≤ x0 → inI x1 → XJ l G bX6_exclude Q d 0 [vr x0, vi x1, vu] [] S V mc ms) : Ct l G bX6_exclude Q d mc ms [vr x0, vi x1] S V := Ct.of okX6_exclude.1 trivial (Nat.le_of_ble_eq_true rfl) (fun hv => h (hv _ (List.mem_of_getElem? (i := 0) rfl)) (hv _ (List.mem_of_getElem? (i := 1) rfl)))
set_option maxRecDepth 10000 in
theorem vX6_ordinalAt_0 {l : Launch} {G : GT} {Q : Int → Sh → Mem → Prop} {d : Nat} {S : Sh} {V : Mem} {mc ms : Nat} {x0 x1 : Int} (h : XJ l G bX6_ordinalAt Q d 4 [vr x0, vi x1, vi x1, vi 0] [] S V mc ms) : XJ l G bX6_ordinalAt Q d 0 [vr x0, vi x1, vu, vu] [] S V mc ms := by
  refine X_iload_n dX6_ordinalAt_0 rfl ?_
  refine X_istore_n dX6_ordinalAt_1 (by decide) rfl ?_
  refine X_iconst dX6_ordinalAt_2 (by decide) ?_
  refine X_istore_n dX6_ordinalAt_3 (by decide) rfl ?_
  exact h
set_option maxRecDepth 10000 in
theorem vX6_ordinalAt_4 {l : Launch} {G : GT} {Q : Int → Sh → Mem → Prop} {d : Nat} {S : Sh} {V : Mem} {mc ms : Nat} {x0 x1 x2 x3 : Int} (h : (24 ≤ x3 → Q (-1) S V) ∧ (¬ (24 ≤ x3) → S.1 x0 = 7 ∧ CT l G bX6_contains d mc ms [vr x0, vi x3] S V (fun z2 S2 V2 mc2 ms2 => (z2 = 0 → -2147483648 ≤ x3 + 1 ∧ x3 + 1 ≤ 2147483647 ∧ XJ l G bX6_ordinalAt Q d 4 [vr x0, vi x1, vi x2, vi (x3 + 1)] [] S2 V2 mc2 ms2) ∧ (¬ (z2 = 0) → (x2 ≠ 0 → -2147483648 ≤ x3 + 1 ∧ x3 + 1 ≤ 2147483647 ∧ XJ l G bX6_ordinalAt Q d 4 [vr x0, vi x1, vi (wr (x2 + (-1))), vi (x3 + 1)] [] S2 V2 mc2 ms2) ∧ (¬ (x2 ≠ 0) → Q x3 S2 V2))))) : XJ l G bX6_ordinalAt Q d 4 [vr x0, vi x1, vi x2, vi x3] [] S V mc ms := by
  refine X_iload_n dX6_ordinalAt_4 rfl ?_
  refine X_bipush dX6_ordinalAt_5 (by decide) (by decide) ?_
  refine X_icmp_ge dX6_ordinalAt_7 (tgt := 33) rfl (fun c1 => ?_) (fun c1 => ?_)
  · refine X_iconst dX6_ordinalAt_33 (by decide) ?_
    exact X_ret (z := (-1)) dX6_ordinalAt_34 rfl (fun hv => vok_h hv) (h.1 c1)
  · refine X_aload_n dX6_ordinalAt_10 rfl ?_
    refine X_iload_n dX6_ordinalAt_11 rfl ?_
    refine X_invV (ci := 6) (as := [vi x3]) (st := []) okX6_contains dX6_ordinalAt_12 km_RX6_25 rfl rfl (Nat.le_of_ble_eq_true rfl) rfl rfl (h.2 c1).1 (CT.imp (h.2 c1).2 (fun z2 S2 V2 mc2 ms2 hc3 => ?_))
    refine X_if_eq dX6_ordinalAt_15 (tgt := 27) rfl (fun c4 => ?_) (fun c4 => ?_)
    · refine X_iincN dX6_ordinalAt_27 rfl (by decide) rfl (e := x3 + 1) rfl (hc3.1 c4).1 (hc3.1 c4).2.1 ?_
      refine X_goto dX6_ordinalAt_30 (tgt := 4) rfl ?_
      exact (hc3.1 c4).2.2
    · refine X_iload_n dX6_ordinalAt_18 rfl ?_
      refine X_if_ne dX6_ordinalAt_19 (tgt := 24) rfl (fun c5 => ?_) (fun c5 => ?_)
      · refine X_iinc dX6_ordinalAt_24 rfl (by decide) rfl ?_
        refine X_iincN dX6_ordinalAt_27 rfl (by decide) rfl (e := x3 + 1) rfl ((hc3.2 c4).1 c5).1 ((hc3.2 c4).1 c5).2.1 ?_
        refine X_goto dX6_ordinalAt_30 (tgt := 4) rfl ?_
        exact ((hc3.2 c4).1 c5).2.2
      · refine X_iload_n dX6_ordinalAt_22 rfl ?_
        exact X_ret (z := x3) dX6_ordinalAt_23 rfl (fun hv => vok_h hv) ((hc3.2 c4).2 c5)
theorem qX6_ordinalAt {l : Launch} {G : GT} {Q : Int → Sh → Mem → Prop} {d : Nat} {S : Sh} {V : Mem} {mc ms : Nat} {x0 x1 : Int} (h : 0 ≤ x0 → inI x1 → XJ l G bX6_ordinalAt Q d 0 [vr x0, vi x1, vu, vu] [] S V mc ms) : Ct l G bX6_ordinalAt Q d mc ms [vr x0, vi x1] S V := Ct.of okX6_ordinalAt.1 trivial (Nat.le_of_ble_eq_true rfl) (fun hv => h (hv _ (List.mem_of_getElem? (i := 0) rfl)) (hv _ (List.mem_of_getElem? (i := 1) rfl)))
set_option maxRecDepth 10000 in
theorem vX7_init_0 {l : Launch} {G : GT} {Q : Int → Sh → Mem → Prop} {d : Nat} {S : Sh} {V : Mem} {mc ms : Nat} {x0 x1 : Int} (h : x0 ≠ 0 ∧ 1 ≤ d ∧ 0 ≤ (12 : Int) ∧ (12 : Int) ≤ 60000 ∧ 1 ≤ mc ∧ (12 : Int).toNat ≤ ms ∧ (∀ (S1 : Sh) (V1 : Mem) (r1 : Int) (mc1 ms1 : Nat), r1 = S.2.2 + 1 → S1 = nw S 22 12 → V1 = clr V r1 → mc1 = mc - 1 → ms1 = ms - (12 : Int).toNat → S1.1 x0 = 8 ∧ 0 ≤ (12 : Int) ∧ (12 : Int) ≤ 60000 ∧ 1 ≤ mc1 ∧ (12 : Int).toNat ≤ ms1 ∧ (∀ (S3 : Sh) (V3 : Mem) (r3 : Int) (mc3 ms3 : Nat), r3 = S1.2.2 + 1 → S3 = nw S1 20 12 → V3 = clr (up V1 x0 1 r1) r3 → mc3 = mc1 - 1 → ms3 = ms1 - (12 : Int).toNat → S3.1 x0 = 8 ∧ Q 0 S3 (up (up V3 x0 2 r3) x0 0 x1)))) : XJ l G bX7_init Q d 0 [vr x0, vl x1, vu] [] S V mc ms := by
  refine X_aload_n dX7_init_0 rfl ?_
  refine X_objInit dX7_init_1 ⟨km_RX7_3, k_obj⟩ h.1 (Nat.le_of_ble_eq_true rfl) h.2.1 ?_
  refine X_aload_n dX7_init_4 rfl ?_
  refine X_bipush dX7_init_5 (by decide) (by decide) ?_
  refine X_newarr (t := 22) dX7_init_7 k_arr.2.2 rfl (by decide) (by decide) h.2.2.1 h.2.2.2.1 h.2.2.2.2.1 h.2.2.2.2.2.1 ?_
  generalize hShn2 : nw S 22 12 = S1
  generalize hVhn2 : clr V (S.2.2 + 1) = V1
  generalize hrhn2 : S.2.2 + 1 = r1 at hVhn2 ⊢
  generalize hmhn2 : mc - 1 = mc1
  generalize hkhn2 : ms - (12 : Int).toNat = ms1
  have hn2 := h.2.2.2.2.2.2 S1 V1 r1 mc1 ms1 hrhn2.symm hShn2.symm hVhn2.symm hmhn2.symm hkhn2.symm
  refine X_putfield (ci := 7) (k := 1) (z := r1) dX7_init_9 rfl (by decide) kf_RX7_9 (Or.inr (Or.inr (Or.inr (Or.inr ⟨_, rfl⟩)))) (Or.inr ⟨rfl, rfl, rfl⟩) rfl (fun hv => hv) hn2.1 ?_
  refine X_aload_n dX7_init_12 rfl ?_
  refine X_bipush dX7_init_13 (by decide) (by decide) ?_
  refine X_newarr (t := 20) dX7_init_15 k_arr.1 rfl (by decide) (by decide) hn2.2.1 hn2.2.2.1 hn2.2.2.2.1 hn2.2.2.2.2.1 ?_
  generalize hShn4 : nw S1 20 12 = S3
  generalize hVhn4 : clr (up V1 x0 1 r1) (S1.2.2 + 1) = V3
  generalize hrhn4 : S1.2.2 + 1 = r3 at hVhn4 ⊢
  generalize hmhn4 : mc1 - 1 = mc3
  generalize hkhn4 : ms1 - (12 : Int).toNat = ms3
  have hn4 := hn2.2.2.2.2.2 S3 V3 r3 mc3 ms3 hrhn4.symm hShn4.symm hVhn4.symm hmhn4.symm hkhn4.symm
  refine X_putfield (ci := 7) (k := 2) (z := r3) dX7_init_17 rfl (by decide) kf_RX7_15 (Or.inr (Or.inr (Or.inr (Or.inr ⟨_, rfl⟩)))) (Or.inr ⟨rfl, rfl, rfl⟩) rfl (fun hv => hv) hn4.1 ?_
  refine X_aload_n dX7_init_20 rfl ?_
  refine X_lload_n dX7_init_21 rfl ?_
  refine X_putfield (ci := 7) (k := 0) (z := x1) dX7_init_22 rfl (by decide) kf_RX7_19 (Or.inr (Or.inl rfl)) (Or.inr ⟨rfl, rfl, rfl⟩) rfl (fun hv => hv) hn4.1 ?_
  exact X_ret (z := 0) dX7_init_25 rfl (fun _ => trivial) hn4.2
theorem qX7_init {l : Launch} {G : GT} {Q : Int → Sh → Mem → Prop} {d : Nat} {S : Sh} {V : Mem} {mc ms : Nat} {x0 x1 : Int} (h : 0 ≤ x0 → inL x1 → XJ l G bX7_init Q d 0 [vr x0, vl x1, vu] [] S V mc ms) : Ct l G bX7_init Q d mc ms [vr x0, vl x1] S V := Ct.of okX7_init.1 trivial (Nat.le_of_ble_eq_true rfl) (fun hv => h (hv _ (List.mem_of_getElem? (i := 0) rfl)) (hv _ (List.mem_of_getElem? (i := 1) rfl)))
set_option maxRecDepth 10000 in
theorem vX7_hasCase_0 {l : Launch} {G : GT} {Q : Int → Sh → Mem → Prop} {d : Nat} {S : Sh} {V : Mem} {mc ms : Nat} {x0 x1 : Int} (h : XJ l G bX7_hasCase Q d 2 [vr x0, vl x1, vu, vi 0] [] S V mc ms) : XJ l G bX7_hasCase Q d 0 [vr x0, vl x1, vu, vu] [] S V mc ms := by
  refine X_iconst dX7_hasCase_0 (by decide) ?_
  refine X_istore_n dX7_hasCase_1 (by decide) rfl ?_
  exact h
set_option maxRecDepth 10000 in
theorem vX7_hasCase_2 {l : Launch} {G : GT} {Q : Int → Sh → Mem → Prop} {d : Nat} {S : Sh} {V : Mem} {mc ms : Nat} {x0 x1 x3 : Int} (h : S.1 x0 = 8 ∧ ((V x0 3) ≤ x3 → Q 0 S V) ∧ (¬ ((V x0 3) ≤ x3) → S.1 (V x0 1) = 22 ∧ 0 ≤ x3 ∧ x3 < S.2.1 (V x0 1) ∧ ((V (V x0 1) x3) ≠ x1 → -2147483648 ≤ x3 + 1 ∧ x3 + 1 ≤ 2147483647 ∧ XJ l G bX7_hasCase Q d 2 [vr x0, vl x1, vu, vi (x3 + 1)] [] S V mc ms) ∧ (¬ ((V (V x0 1) x3) ≠ x1) → Q 1 S V))) : XJ l G bX7_hasCase Q d 2 [vr x0, vl x1, vu, vi x3] [] S V mc ms := by
  refine X_iload_n dX7_hasCase_2 rfl ?_
  refine X_aload_n dX7_hasCase_3 rfl ?_
  refine X_getfield (ci := 7) (k := 3) (v := vi (V x0 3)) dX7_hasCase_4 rfl (by decide) kf_RX7_23 rfl h.1 ?_
  refine X_icmp_ge dX7_hasCase_7 (tgt := 29) rfl (fun c1 => ?_) (fun c1 => ?_)
  · refine X_iconst dX7_hasCase_29 (by decide) ?_
    exact X_ret (z := 0) dX7_hasCase_30 rfl (fun _ => Or.inl rfl) (h.2.1 c1)
  · refine X_aload_n dX7_hasCase_10 rfl ?_
    refine X_getfield (ci := 7) (k := 1) (v := vr (V x0 1)) dX7_hasCase_11 rfl (by decide) kf_RX7_9 rfl h.1 ?_
    refine X_iload_n dX7_hasCase_14 rfl ?_
    refine X_laload dX7_hasCase_15 (h.2.2 c1).1 (h.2.2 c1).2.1 (h.2.2 c1).2.2.1 ?_
    refine X_lload_n dX7_hasCase_16 rfl ?_
    refine X_lc_ne dX7_hasCase_17 dX7_hasCase_18 (tgt := 23) rfl (fun c2 => ?_) (fun c2 => ?_)
    · refine X_iincN dX7_hasCase_23 rfl (by decide) rfl (e := x3 + 1) rfl ((h.2.2 c1).2.2.2.1 c2).1 ((h.2.2 c1).2.2.2.1 c2).2.1 ?_
      refine X_goto dX7_hasCase_26 (tgt := 2) rfl ?_
      exact ((h.2.2 c1).2.2.2.1 c2).2.2
    · refine X_iconst dX7_hasCase_21 (by decide) ?_
      exact X_ret (z := 1) dX7_hasCase_22 rfl (fun _ => Or.inr rfl) ((h.2.2 c1).2.2.2.2 c2)
theorem qX7_hasCase {l : Launch} {G : GT} {Q : Int → Sh → Mem → Prop} {d : Nat} {S : Sh} {V : Mem} {mc ms : Nat} {x0 x1 : Int} (h : 0 ≤ x0 → inL x1 → XJ l G bX7_hasCase Q d 0 [vr x0, vl x1, vu, vu] [] S V mc ms) : Ct l G bX7_hasCase Q d mc ms [vr x0, vl x1] S V := Ct.of okX7_hasCase.1 trivial (Nat.le_of_ble_eq_true rfl) (fun hv => h (hv _ (List.mem_of_getElem? (i := 0) rfl)) (hv _ (List.mem_of_getElem? (i := 1) rfl)))
set_option maxRecDepth 10000 in
theorem vX8_init_0 {l : Launch} {G : GT} {Q : Int → Sh → Mem → Prop} {d : Nat} {S : Sh} {V : Mem} {mc ms : Nat} {x0 x1 : Int} (h : x0 ≠ 0 ∧ 1 ≤ d ∧ 0 ≤ (12 : Int) ∧ (12 : Int) ≤ 60000 ∧ 1 ≤ mc ∧ (12 : Int).toNat ≤ ms ∧ (∀ (S1 : Sh) (V1 : Mem) (r1 : Int) (mc1 ms1 : Nat), r1 = S.2.2 + 1 → S1 = nw S 20 12 → V1 = clr V r1 → mc1 = mc - 1 → ms1 = ms - (12 : Int).toNat → S1.1 x0 = 9 ∧ 0 ≤ (12 : Int) ∧ (12 : Int) ≤ 60000 ∧ 1 ≤ mc1 ∧ (12 : Int).toNat ≤ ms1 ∧ (∀ (S3 : Sh) (V3 : Mem) (r3 : Int) (mc3 ms3 : Nat), r3 = S1.2.2 + 1 → S3 = nw S1 20 12 → V3 = clr (up V1 x0 1 r1) r3 → mc3 = mc1 - 1 → ms3 = ms1 - (12 : Int).toNat → S3.1 x0 = 9 ∧ Q 0 S3 (up (up V3 x0 2 r3) x0 0 x1)))) : XJ l G bX8_init Q d 0 [vr x0, vl x1, vu] [] S V mc ms := by
  refine X_aload_n dX8_init_0 rfl ?_
  refine X_objInit dX8_init_1 ⟨km_RX8_3, k_obj⟩ h.1 (Nat.le_of_ble_eq_true rfl) h.2.1 ?_
  refine X_aload_n dX8_init_4 rfl ?_
  refine X_bipush dX8_init_5 (by decide) (by decide) ?_
  refine X_newarr (t := 20) dX8_init_7 k_arr.1 rfl (by decide) (by decide) h.2.2.1 h.2.2.2.1 h.2.2.2.2.1 h.2.2.2.2.2.1 ?_
  generalize hShn2 : nw S 20 12 = S1
  generalize hVhn2 : clr V (S.2.2 + 1) = V1
  generalize hrhn2 : S.2.2 + 1 = r1 at hVhn2 ⊢
  generalize hmhn2 : mc - 1 = mc1
  generalize hkhn2 : ms - (12 : Int).toNat = ms1
  have hn2 := h.2.2.2.2.2.2 S1 V1 r1 mc1 ms1 hrhn2.symm hShn2.symm hVhn2.symm hmhn2.symm hkhn2.symm
  refine X_putfield (ci := 8) (k := 1) (z := r1) dX8_init_9 rfl (by decide) kf_RX8_9 (Or.inr (Or.inr (Or.inr (Or.inr ⟨_, rfl⟩)))) (Or.inr ⟨rfl, rfl, rfl⟩) rfl (fun hv => hv) hn2.1 ?_
  refine X_aload_n dX8_init_12 rfl ?_
  refine X_bipush dX8_init_13 (by decide) (by decide) ?_
  refine X_newarr (t := 20) dX8_init_15 k_arr.1 rfl (by decide) (by decide) hn2.2.1 hn2.2.2.1 hn2.2.2.2.1 hn2.2.2.2.2.1 ?_
  generalize hShn4 : nw S1 20 12 = S3
  generalize hVhn4 : clr (up V1 x0 1 r1) (S1.2.2 + 1) = V3
  generalize hrhn4 : S1.2.2 + 1 = r3 at hVhn4 ⊢
  generalize hmhn4 : mc1 - 1 = mc3
  generalize hkhn4 : ms1 - (12 : Int).toNat = ms3
  have hn4 := hn2.2.2.2.2.2 S3 V3 r3 mc3 ms3 hrhn4.symm hShn4.symm hVhn4.symm hmhn4.symm hkhn4.symm
  refine X_putfield (ci := 8) (k := 2) (z := r3) dX8_init_17 rfl (by decide) kf_RX8_15 (Or.inr (Or.inr (Or.inr (Or.inr ⟨_, rfl⟩)))) (Or.inr ⟨rfl, rfl, rfl⟩) rfl (fun hv => hv) hn4.1 ?_
  refine X_aload_n dX8_init_20 rfl ?_
  refine X_lload_n dX8_init_21 rfl ?_
  refine X_putfield (ci := 8) (k := 0) (z := x1) dX8_init_22 rfl (by decide) kf_RX8_18 (Or.inr (Or.inl rfl)) (Or.inr ⟨rfl, rfl, rfl⟩) rfl (fun hv => hv) hn4.1 ?_
  exact X_ret (z := 0) dX8_init_25 rfl (fun _ => trivial) hn4.2
theorem qX8_init {l : Launch} {G : GT} {Q : Int → Sh → Mem → Prop} {d : Nat} {S : Sh} {V : Mem} {mc ms : Nat} {x0 x1 : Int} (h : 0 ≤ x0 → inL x1 → XJ l G bX8_init Q d 0 [vr x0, vl x1, vu] [] S V mc ms) : Ct l G bX8_init Q d mc ms [vr x0, vl x1] S V := Ct.of okX8_init.1 trivial (Nat.le_of_ble_eq_true rfl) (fun hv => h (hv _ (List.mem_of_getElem? (i := 0) rfl)) (hv _ (List.mem_of_getElem? (i := 1) rfl)))
set_option maxRecDepth 10000 in
theorem vX9_init_0 {l : Launch} {G : GT} {Q : Int → Sh → Mem → Prop} {d : Nat} {S : Sh} {V : Mem} {mc ms : Nat} {x0 : Int} (h : x0 ≠ 0 ∧ 1 ≤ d ∧ 0 ≤ (3001 : Int) ∧ (3001 : Int) ≤ 60000 ∧ 1 ≤ mc ∧ (3001 : Int).toNat ≤ ms ∧ (∀ (S1 : Sh) (V1 : Mem) (r1 : Int) (mc1 ms1 : Nat), r1 = S.2.2 + 1 → S1 = nw S 20 3001 → V1 = clr V r1 → mc1 = mc - 1 → ms1 = ms - (3001 : Int).toNat → S1.1 x0 = 10 ∧ 0 ≤ (3001 : Int) ∧ (3001 : Int) ≤ 60000 ∧ 1 ≤ mc1 ∧ (3001 : Int).toNat ≤ ms1 ∧ (∀ (S3 : Sh) (V3 : Mem) (r3 : Int) (mc3 ms3 : Nat), r3 = S1.2.2 + 1 → S3 = nw S1 20 3001 → V3 = clr (up V1 x0 0 r1) r3 → mc3 = mc1 - 1 → ms3 = ms1 - (3001 : Int).toNat → S3.1 x0 = 10 ∧ 0 ≤ (3001 : Int) ∧ (3001 : Int) ≤ 60000 ∧ 1 ≤ mc3 ∧ (3001 : Int).toNat ≤ ms3 ∧ (∀ (S5 : Sh) (V5 : Mem) (r5 : Int) (mc5 ms5 : Nat), r5 = S3.2.2 + 1 → S5 = nw S3 22 3001 → V5 = clr (up V3 x0 1 r3) r5 → mc5 = mc3 - 1 → ms5 = ms3 - (3001 : Int).toNat → S5.1 x0 = 10 ∧ 0 ≤ (12 : Int) ∧ (12 : Int) ≤ 60000 ∧ 1 ≤ mc5 ∧ (12 : Int).toNat ≤ ms5 ∧ (∀ (S7 : Sh) (V7 : Mem) (r7 : Int) (mc7 ms7 : Nat), r7 = S5.2.2 + 1 → S7 = nw S5 22 12 → V7 = clr (up (up V5 x0 2 r5) x0 3 1) r7 → mc7 = mc5 - 1 → ms7 = ms5 - (12 : Int).toNat → S7.1 x0 = 10 ∧ XJ l G bX9_init Q d 51 [vr x0, vl 0, vu, vi 0, vi 0, vu] [] S7 (up V7 x0 4 r7) mc7 ms7))))) : XJ l G bX9_init Q d 0 [vr x0, vu, vu, vu, vu, vu] [] S V mc ms := by
  refine X_aload_n dX9_init_0 rfl ?_
  refine X_objInit dX9_init_1 ⟨km_RX9_3, k_obj⟩ h.1 (Nat.le_of_ble_eq_true rfl) h.2.1 ?_
  refine X_aload_n dX9_init_4 rfl ?_
  refine X_sipush dX9_init_5 (by decide) (by decide) ?_
  refine X_newarr (t := 20) dX9_init_8 k_arr.1 rfl (by decide) (by decide) h.2.2.1 h.2.2.2.1 h.2.2.2.2.1 h.2.2.2.2.2.1 ?_
  generalize hShn2 : nw S 20 3001 = S1
  generalize hVhn2 : clr V (S.2.2 + 1) = V1
  generalize hrhn2 : S.2.2 + 1 = r1 at hVhn2 ⊢
  generalize hmhn2 : mc - 1 = mc1
  generalize hkhn2 : ms - (3001 : Int).toNat = ms1
  have hn2 := h.2.2.2.2.2.2 S1 V1 r1 mc1 ms1 hrhn2.symm hShn2.symm hVhn2.symm hmhn2.symm hkhn2.symm
  refine X_putfield (ci := 9) (k := 0) (z := r1) dX9_init_10 rfl (by decide) kf_RX9_9 (Or.inr (Or.inr (Or.inr (Or.inr ⟨_, rfl⟩)))) (Or.inr ⟨rfl, rfl, rfl⟩) rfl (fun hv => hv) hn2.1 ?_
  refine X_aload_n dX9_init_13 rfl ?_
  refine X_sipush dX9_init_14 (by decide) (by decide) ?_
  refine X_newarr (t := 20) dX9_init_17 k_arr.1 rfl (by decide) (by decide) hn2.2.1 hn2.2.2.1 hn2.2.2.2.1 hn2.2.2.2.2.1 ?_
  generalize hShn4 : nw S1 20 3001 = S3
  generalize hVhn4 : clr (up V1 x0 0 r1) (S1.2.2 + 1) = V3
  generalize hrhn4 : S1.2.2 + 1 = r3 at hVhn4 ⊢
  generalize hmhn4 : mc1 - 1 = mc3
  generalize hkhn4 : ms1 - (3001 : Int).toNat = ms3
  have hn4 := hn2.2.2.2.2.2 S3 V3 r3 mc3 ms3 hrhn4.symm hShn4.symm hVhn4.symm hmhn4.symm hkhn4.symm
  refine X_putfield (ci := 9) (k := 1) (z := r3) dX9_init_19 rfl (by decide) kf_RX9_15 (Or.inr (Or.inr (Or.inr (Or.inr ⟨_, rfl⟩)))) (Or.inr ⟨rfl, rfl, rfl⟩) rfl (fun hv => hv) hn4.1 ?_
  refine X_aload_n dX9_init_22 rfl ?_
  refine X_sipush dX9_init_23 (by decide) (by decide) ?_
  refine X_newarr (t := 22) dX9_init_26 k_arr.2.2 rfl (by decide) (by decide) hn4.2.1 hn4.2.2.1 hn4.2.2.2.1 hn4.2.2.2.2.1 ?_
  generalize hShn6 : nw S3 22 3001 = S5
  generalize hVhn6 : clr (up V3 x0 1 r3) (S3.2.2 + 1) = V5
  generalize hrhn6 : S3.2.2 + 1 = r5 at hVhn6 ⊢
  generalize hmhn6 : mc3 - 1 = mc5
  generalize hkhn6 : ms3 - (3001 : Int).toNat = ms5
  have hn6 := hn4.2.2.2.2.2 S5 V5 r5 mc5 ms5 hrhn6.symm hShn6.symm hVhn6.symm hmhn6.symm hkhn6.symm
  refine X_putfield (ci := 9) (k := 2) (z := r5) dX9_init_28 rfl (by decide) kf_RX9_18 (Or.inr (Or.inr (Or.inr (Or.inr ⟨_, rfl⟩)))) (Or.inr ⟨rfl, rfl, rfl⟩) rfl (fun hv => hv) hn6.1 ?_
  refine X_aload_n dX9_init_31 rfl ?_
  refine X_iconst dX9_init_32 (by decide) ?_
  refine X_putfield (ci := 9) (k := 3) (z := 1) dX9_init_33 rfl (by decide) kf_RX9_22 (Or.inl rfl) (Or.inl rfl) rfl (fun hv => hv) hn6.1 ?_
  refine X_aload_n dX9_init_36 rfl ?_
  refine X_bipush dX9_init_37 (by decide) (by decide) ?_
  refine X_newarr (t := 22) dX9_init_39 k_arr.2.2 rfl (by decide) (by decide) hn6.2.1 hn6.2.2.1 hn6.2.2.2.1 hn6.2.2.2.2.1 ?_
  generalize hShn8 : nw S5 22 12 = S7
  generalize hVhn8 : clr (up (up V5 x0 2 r5) x0 3 1) (S5.2.2 + 1) = V7
  generalize hrhn8 : S5.2.2 + 1 = r7 at hVhn8 ⊢
  generalize hmhn8 : mc5 - 1 = mc7
  generalize hkhn8 : ms5 - (12 : Int).toNat = ms7
  have hn8 := hn6.2.2.2.2.2 S7 V7 r7 mc7 ms7 hrhn8.symm hShn8.symm hVhn8.symm hmhn8.symm hkhn8.symm
  refine X_putfield (ci := 9) (k := 4) (z := r7) dX9_init_41 rfl (by decide) kf_RX9_26 (Or.inr (Or.inr (Or.inr (Or.inr ⟨_, rfl⟩)))) (Or.inr ⟨rfl, rfl, rfl⟩) rfl (fun hv => hv) hn8.1 ?_
  refine X_lconst dX9_init_44 ?_
  refine X_lstore_n dX9_init_45 (by decide) rfl ?_
  refine X_iconst dX9_init_46 (by decide) ?_
  refine X_istore_n dX9_init_47 (by decide) rfl ?_
  refine X_iconst dX9_init_48 (by decide) ?_
  refine X_istore dX9_init_49 (by decide) rfl ?_
  exact hn8.2
set_option maxRecDepth 10000 in
theorem vX9_init_51 {l : Launch} {G : GT} {Q : Int → Sh → Mem → Prop} {d : Nat} {S : Sh} {V : Mem} {mc ms : Nat} {x0 x1 x3 x4 : Int} (h : CT l G bJ0_length_8abf5 d mc ms [vr ((G.2.2.2.1 0 : Int) + 1)] S V (fun z1 S1 V1 mc1 ms1 => (z1 ≤ x4 → Q 0 S1 V1) ∧ (¬ (z1 ≤ x4) → CT l G bJ0_charAt_5068e d mc1 ms1 [vr ((G.2.2.2.1 0 : Int) + 1), vi x4] S1 V1 (fun z4 S4 V4 mc4 ms4 => CT l G bX9_rankOf d mc4 ms4 [vi z4] S4 V4 (fun z6 S6 V6 mc6 ms6 => (z6 ≤ 0 → (12 ≤ x3 → -2147483648 ≤ x4 + 1 ∧ x4 + 1 ≤ 2147483647 ∧ XJ l G bX9_init Q d 51 [vr x0, vl x1, vu, vi x3, vi (x4 + 1), vu] [] S6 V6 mc6 ms6) ∧ (¬ (12 ≤ x3) → S6.1 x0 = 10 ∧ S6.1 (V6 x0 4) = 22 ∧ 0 ≤ x3 ∧ x3 < S6.2.1 (V6 x0 4) ∧ -2147483648 ≤ x3 + 1 ∧ x3 + 1 ≤ 2147483647 ∧ -2147483648 ≤ x4 + 1 ∧ x4 + 1 ≤ 2147483647 ∧ XJ l G bX9_init Q d 51 [vr x0, vl 0, vu, vi (x3 + 1), vi (x4 + 1), vu] [] S6 (up V6 (V6 x0 4) x3 x1) mc6 ms6)) ∧ (¬ (z6 ≤ 0) → -9223372036854775808 ≤ x1 * 64 ∧ x1 * 64 ≤ 9223372036854775807 ∧ -9223372036854775808 ≤ (x1 * 64) + z6 ∧ (x1 * 64) + z6 ≤ 9223372036854775807 ∧ -2147483648 ≤ x4 + 1 ∧ x4 + 1 ≤ 2147483647 ∧ XJ l G bX9_init Q d 51 [vr x0, vl ((x1 * 64) + z6), vu, vi x3, vi (x4 + 1), vu] [] S6 V6 mc6 ms6)))))) : XJ l G bX9_init Q d 51 [vr x0, vl x1, vu, vi x3, vi x4, vu] [] S V mc ms := by
  refine X_iload dX9_init_51 rfl ?_
  refine X_ldcS (i := 0) dX9_init_53 (by decide) ⟨rfl, rfl⟩ ?_
  refine X_invStr (i := 0) (as := []) (st := [vi x4]) okJ0_length_8abf5 dX9_init_55 km_RX9_31 rfl rfl (Nat.le_of_ble_eq_true rfl) (by decide) rfl (CT.imp h (fun z1 S1 V1 mc1 ms1 hc2 => ?_))
  refine X_icmp_ge dX9_init_58 (tgt := 115) rfl (fun c3 => ?_) (fun c3 => ?_)
  · exact X_ret (z := 0) dX9_init_115 rfl (fun _ => trivial) (hc2.1 c3)
  · refine X_ldcS (i := 0) dX9_init_61 (by decide) ⟨rfl, rfl⟩ ?_
    refine X_iload dX9_init_63 rfl ?_
    refine X_invStr (i := 0) (as := [vi x4]) (st := []) okJ0_charAt_5068e dX9_init_65 km_RX9_37 rfl rfl (Nat.le_of_ble_eq_true rfl) (by decide) rfl (CT.imp (hc2.2 c3) (fun z4 S4 V4 mc4 ms4 hc5 => ?_))
    refine X_invS (as := [vi z4]) (st := []) okX9_rankOf dX9_init_68 km_RX9_41 rfl rfl (Nat.le_of_ble_eq_true rfl) (CT.imp hc5 (fun z6 S6 V6 mc6 ms6 hc7 => ?_))
    refine X_istore dX9_init_71 (by decide) rfl ?_
    refine X_iload dX9_init_73 rfl ?_
    refine X_if_le dX9_init_75 (tgt := 91) rfl (fun c8 => ?_) (fun c8 => ?_)
    · refine X_iload_n dX9_init_91 rfl ?_
      refine X_bipush dX9_init_92 (by decide) (by decide) ?_
      refine X_icmp_ge dX9_init_94 (tgt := 109) rfl (fun c9 => ?_) (fun c9 => ?_)
      · refine X_iincN dX9_init_109 rfl (by decide) rfl (e := x4 + 1) rfl ((hc7.1 c8).1 c9).1 ((hc7.1 c8).1 c9).2.1 ?_
        refine X_goto dX9_init_112 (tgt := 51) rfl ?_
        exact X_weak [false, false, false, false, false, true] ((hc7.1 c8).1 c9).2.2
      · refine X_aload_n dX9_init_97 rfl ?_
        refine X_getfield (ci := 9) (k := 4) (v := vr (V6 x0 4)) dX9_init_98 rfl (by decide) kf_RX9_26 rfl ((hc7.1 c8).2 c9).1 ?_
        refine X_iload_n dX9_init_101 rfl ?_
        refine X_lload_n dX9_init_102 rfl ?_
        refine X_lastore dX9_init_103 ((hc7.1 c8).2 c9).2.1 ((hc7.1 c8).2 c9).2.2.1 ((hc7.1 c8).2 c9).2.2.2.1 ?_
        refine X_iincN dX9_init_104 rfl (by decide) rfl (e := x3 + 1) rfl ((hc7.1 c8).2 c9).2.2.2.2.1 ((hc7.1 c8).2 c9).2.2.2.2.2.1 ?_
        refine X_lconst dX9_init_107 ?_
        refine X_lstore_n dX9_init_108 (by decide) rfl ?_
        refine X_iincN dX9_init_109 rfl (by decide) rfl (e := x4 + 1) rfl ((hc7.1 c8).2 c9).2.2.2.2.2.2.1 ((hc7.1 c8).2 c9).2.2.2.2.2.2.2.1 ?_
        refine X_goto dX9_init_112 (tgt := 51) rfl ?_
        exact X_weak [false, false, false, false, false, true] ((hc7.1 c8).2 c9).2.2.2.2.2.2.2.2
    · refine X_lload_n dX9_init_78 rfl ?_
      refine X_ldc2 dX9_init_79 kl_RX9_45 (by decide) ?_
      refine X_lmulN dX9_init_82 (hc7.2 c8).1 (hc7.2 c8).2.1 ?_
      refine X_iload dX9_init_83 rfl ?_
      refine X_i2l dX9_init_85 ?_
      refine X_laddN dX9_init_86 (hc7.2 c8).2.2.1 (hc7.2 c8).2.2.2.1 ?_
      refine X_lstore_n dX9_init_87 (by decide) rfl ?_
      refine X_goto dX9_init_88 (tgt := 109) rfl ?_
      refine X_iincN dX9_init_109 rfl (by decide) rfl (e := x4 + 1) rfl (hc7.2 c8).2.2.2.2.1 (hc7.2 c8).2.2.2.2.2.1 ?_
      refine X_goto dX9_init_112 (tgt := 51) rfl ?_
      exact X_weak [false, false, false, false, false, true] (hc7.2 c8).2.2.2.2.2.2
theorem qX9_init {l : Launch} {G : GT} {Q : Int → Sh → Mem → Prop} {d : Nat} {S : Sh} {V : Mem} {mc ms : Nat} {x0 : Int} (h : 0 ≤ x0 → XJ l G bX9_init Q d 0 [vr x0, vu, vu, vu, vu, vu] [] S V mc ms) : Ct l G bX9_init Q d mc ms [vr x0] S V := Ct.of okX9_init.1 trivial (Nat.le_of_ble_eq_true rfl) (fun hv => h (hv _ (List.mem_of_getElem? (i := 0) rfl)))
set_option maxRecDepth 10000 in
theorem vX9_cutUp_0 {l : Launch} {G : GT} {Q : Int → Sh → Mem → Prop} {d : Nat} {S : Sh} {V : Mem} {mc ms : Nat} {x0 x1 x2 : Int} (h : S.1 x0 = 10 ∧ XJ l G bX9_cutUp Q d 7 [vr x0, vr x1, vi x2, vi 0, vu, vu] [] S (up V x0 3 0) mc ms) : XJ l G bX9_cutUp Q d 0 [vr x0, vr x1, vi x2, vu, vu, vu] [] S V mc ms := by
  refine X_aload_n dX9_cutUp_0 rfl ?_
  refine X_iconst dX9_cutUp_1 (by decide) ?_
  refine X_putfield (ci := 9) (k := 3) (z := 0) dX9_cutUp_2 rfl (by decide) kf_RX9_22 (Or.inl rfl) (Or.inl rfl) rfl (fun hv => hv) h.1 ?_
  refine X_iconst dX9_cutUp_5 (by decide) ?_
  refine X_istore_n dX9_cutUp_6 (by decide) rfl ?_
  exact h.2
set_option maxRecDepth 10000 in
theorem vX9_cutUp_7 {l : Launch} {G : GT} {Q : Int → Sh → Mem → Prop} {d : Nat} {S : Sh} {V : Mem} {mc ms : Nat} {x0 x1 x2 x3 : Int} (h : (x2 ≤ x3 → S.1 x0 = 10 ∧ CT l G bX9_keep d mc ms [vr x0, vi 1, vi x2, vl 0] S V (fun z2 S2 V2 mc2 ms2 => Q 0 S2 V2)) ∧ (¬ (x2 ≤ x3) → S.1 x1 = 21 ∧ 0 ≤ x3 ∧ x3 < S.2.1 x1 ∧ CT l G bX9_rankOf d mc ms [vi (bAnd (V x1 x3) 255)] S V (fun z4 S4 V4 mc4 ms4 => (z4 ≤ 0 → ((bAnd (V x1 x3) 255) = 32 → -2147483648 ≤ x3 + 1 ∧ x3 + 1 ≤ 2147483647 ∧ XJ l G bX9_cutUp Q d 7 [vr x0, vr x1, vi x2, vi (x3 + 1), vu, vu] [] S4 V4 mc4 ms4) ∧ (¬ ((bAnd (V x1 x3) 255) = 32) → ((bAnd (V x1 x3) 255) = 10 → -2147483648 ≤ x3 + 1 ∧ x3 + 1 ≤ 2147483647 ∧ XJ l G bX9_cutUp Q d 7 [vr x0, vr x1, vi x2, vi (x3 + 1), vu, vu] [] S4 V4 mc4 ms4) ∧ (¬ ((bAnd (V x1 x3) 255) = 10) → CT l G bJ0_indexOf_0f7a4 d mc4 ms4 [vr ((G.2.2.2.1 1 : Int) + 1), vi (wc (bAnd (V x1 x3) 255))] S4 V4 (fun z9 S9 V9 mc9 ms9 => (z9 < 0 → S9.1 x0 = 10 ∧ CT l G bX9_keep d mc9 ms9 [vr x0, vi 0, vi x3, vl 0] S9 V9 (fun z12 S12 V12 mc12 ms12 => -2147483648 ≤ x3 + 1 ∧ x3 + 1 ≤ 2147483647 ∧ XJ l G bX9_cutUp Q d 7 [vr x0, vr x1, vi x2, vi (x3 + 1), vu, vu] [] S12 V12 mc12 ms12)) ∧ (¬ (z9 < 0) → S9.1 x0 = 10 ∧ CT l G bX9_keep d mc9 ms9 [vr x0, vi (bAnd (V x1 x3) 255), vi x3, vl 0] S9 V9 (fun z14 S14 V14 mc14 ms14 => -2147483648 ≤ x3 + 1 ∧ x3 + 1 ≤ 2147483647 ∧ XJ l G bX9_cutUp Q d 7 [vr x0, vr x1, vi x2, vi (x3 + 1), vu, vu] [] S14 V14 mc14 ms14)))))) ∧ (¬ (z4 ≤ 0) → CT l G bX9_rowEnd d mc4 ms4 [vr x1, vi x3, vi x2] S4 V4 (fun z16 S16 V16 mc16 ms16 => S16.1 x0 = 10 ∧ CT l G bX9_keepRow d mc16 ms16 [vr x0, vr x1, vi x3, vi z16] S16 V16 (fun z18 S18 V18 mc18 ms18 => -2147483648 ≤ z16 - 1 ∧ z16 - 1 ≤ 2147483647 ∧ -2147483648 ≤ (z16 - 1) + 1 ∧ (z16 - 1) + 1 ≤ 2147483647 ∧ XJ l G bX9_cutUp Q d 7 [vr x0, vr x1, vi x2, vi ((z16 - 1) + 1), vu, vu] [] S18 V18 mc18 ms18)))))) : XJ l G bX9_cutUp Q d 7 [vr x0, vr x1, vi x2, vi x3, vu, vu] [] S V mc ms := by
  refine X_iload_n dX9_cutUp_7 rfl ?_
  refine X_iload_n dX9_cutUp_8 rfl ?_
  refine X_icmp_ge dX9_cutUp_9 (tgt := 96) rfl (fun c1 => ?_) (fun c1 => ?_)
  · refine X_aload_n dX9_cutUp_96 rfl ?_
    refine X_iconst dX9_cutUp_97 (by decide) ?_
    refine X_iload_n dX9_cutUp_98 rfl ?_
    refine X_lconst dX9_cutUp_99 ?_
    refine X_invV (ci := 9) (as := [vi 1, vi x2, vl 0]) (st := []) okX9_keep dX9_cutUp_100 km_RX9_60 rfl rfl (Nat.le_of_ble_eq_true rfl) rfl rfl (h.1 c1).1 (CT.imp (h.1 c1).2 (fun z2 S2 V2 mc2 ms2 hc3 => ?_))
    exact X_ret (z := 0) dX9_cutUp_103 rfl (fun _ => trivial) hc3
  · refine X_aload_n dX9_cutUp_12 rfl ?_
    refine X_iload_n dX9_cutUp_13 rfl ?_
    refine X_baload dX9_cutUp_14 (h.2 c1).1 (h.2 c1).2.1 (h.2 c1).2.2.1 ?_
    refine X_sipush dX9_cutUp_15 (by decide) (by decide) ?_
    refine X_iand dX9_cutUp_18 ?_
    refine X_istore dX9_cutUp_19 (by decide) rfl ?_
    refine X_iload dX9_cutUp_21 rfl ?_
    refine X_invS (as := [vi (bAnd (V x1 x3) 255)]) (st := []) okX9_rankOf dX9_cutUp_23 km_RX9_41 rfl rfl (Nat.le_of_ble_eq_true rfl) (CT.imp (h.2 c1).2.2.2 (fun z4 S4 V4 mc4 ms4 hc5 => ?_))
    refine X_if_le dX9_cutUp_26 (tgt := 53) rfl (fun c6 => ?_) (fun c6 => ?_)
    · refine X_iload dX9_cutUp_53 rfl ?_
      refine X_bipush dX9_cutUp_55 (by decide) (by decide) ?_
      refine X_icmp_eq dX9_cutUp_57 (tgt := 90) rfl (fun c7 => ?_) (fun c7 => ?_)
      · refine X_iincN dX9_cutUp_90 rfl (by decide) rfl (e := x3 + 1) rfl ((hc5.1 c6).1 c7).1 ((hc5.1 c6).1 c7).2.1 ?_
        refine X_goto dX9_cutUp_93 (tgt := 7) rfl ?_
        exact X_weak [false, false, false, false, true, false] ((hc5.1 c6).1 c7).2.2
      · refine X_iload dX9_cutUp_60 rfl ?_
        refine X_bipush dX9_cutUp_62 (by decide) (by decide) ?_
        refine X_icmp_eq dX9_cutUp_64 (tgt := 90) rfl (fun c8 => ?_) (fun c8 => ?_)
        · refine X_iincN dX9_cutUp_90 rfl (by decide) rfl (e := x3 + 1) rfl (((hc5.1 c6).2 c7).1 c8).1 (((hc5.1 c6).2 c7).1 c8).2.1 ?_
          refine X_goto dX9_cutUp_93 (tgt := 7) rfl ?_
          exact X_weak [false, false, false, false, true, false] (((hc5.1 c6).2 c7).1 c8).2.2
        · refine X_aload_n dX9_cutUp_67 rfl ?_
          refine X_ldcS (i := 1) dX9_cutUp_68 (by decide) ⟨rfl, rfl⟩ ?_
          refine X_iload dX9_cutUp_70 rfl ?_
          refine X_i2c dX9_cutUp_72 ?_
          refine X_invStr (i := 1) (as := [vi (wc (bAnd (V x1 x3) 255))]) (st := [vr x0]) okJ0_indexOf_0f7a4 dX9_cutUp_73 km_RX9_57 rfl rfl (Nat.le_of_ble_eq_true rfl) (by decide) rfl (CT.imp (((hc5.1 c6).2 c7).2 c8) (fun z9 S9 V9 mc9 ms9 hc10 => ?_))
          refine X_if_lt dX9_cutUp_76 (tgt := 84) rfl (fun c11 => ?_) (fun c11 => ?_)
          · refine X_iconst dX9_cutUp_84 (by decide) ?_
            refine X_iload_n dX9_cutUp_85 rfl ?_
            refine X_lconst dX9_cutUp_86 ?_
            refine X_invV (ci := 9) (as := [vi 0, vi x3, vl 0]) (st := []) okX9_keep dX9_cutUp_87 km_RX9_60 rfl rfl (Nat.le_of_ble_eq_true rfl) rfl rfl (hc10.1 c11).1 (CT.imp (hc10.1 c11).2 (fun z12 S12 V12 mc12 ms12 hc13 => ?_))
            refine X_iincN dX9_cutUp_90 rfl (by decide) rfl (e := x3 + 1) rfl hc13.1 hc13.2.1 ?_
            refine X_goto dX9_cutUp_93 (tgt := 7) rfl ?_
            exact X_weak [false, false, false, false, true, false] hc13.2.2
          · refine X_iload dX9_cutUp_79 rfl ?_
            refine X_goto dX9_cutUp_81 (tgt := 85) rfl ?_
            refine X_iload_n dX9_cutUp_85 rfl ?_
            refine X_lconst dX9_cutUp_86 ?_
            refine X_invV (ci := 9) (as := [vi (bAnd (V x1 x3) 255), vi x3, vl 0]) (st := []) okX9_keep dX9_cutUp_87 km_RX9_60 rfl rfl (Nat.le_of_ble_eq_true rfl) rfl rfl (hc10.2 c11).1 (CT.imp (hc10.2 c11).2 (fun z14 S14 V14 mc14 ms14 hc15 => ?_))
            refine X_iincN dX9_cutUp_90 rfl (by decide) rfl (e := x3 + 1) rfl hc15.1 hc15.2.1 ?_
            refine X_goto dX9_cutUp_93 (tgt := 7) rfl ?_
            exact X_weak [false, false, false, false, true, false] hc15.2.2
    · refine X_aload_n dX9_cutUp_29 rfl ?_
      refine X_iload_n dX9_cutUp_30 rfl ?_
      refine X_iload_n dX9_cutUp_31 rfl ?_
      refine X_invS (as := [vr x1, vi x3, vi x2]) (st := []) okX9_rowEnd dX9_cutUp_32 km_RX9_47 rfl rfl (Nat.le_of_ble_eq_true rfl) (CT.imp (hc5.2 c6) (fun z16 S16 V16 mc16 ms16 hc17 => ?_))
      refine X_istore dX9_cutUp_35 (by decide) rfl ?_
      refine X_aload_n dX9_cutUp_37 rfl ?_
      refine X_aload_n dX9_cutUp_38 rfl ?_
      refine X_iload_n dX9_cutUp_39 rfl ?_
      refine X_iload dX9_cutUp_40 rfl ?_
      refine X_invV (ci := 9) (as := [vr x1, vi x3, vi z16]) (st := []) okX9_keepRow dX9_cutUp_42 km_RX9_51 rfl rfl (Nat.le_of_ble_eq_true rfl) rfl rfl hc17.1 (CT.imp hc17.2 (fun z18 S18 V18 mc18 ms18 hc19 => ?_))
      refine X_iload dX9_cutUp_45 rfl ?_
      refine X_iconst dX9_cutUp_47 (by decide) ?_
      refine X_isubN dX9_cutUp_48 hc19.1 hc19.2.1 ?_
      refine X_istore_n dX9_cutUp_49 (by decide) rfl ?_
      refine X_goto dX9_cutUp_50 (tgt := 90) rfl ?_
      refine X_iincN dX9_cutUp_90 rfl (by decide) rfl (e := (z16 - 1) + 1) rfl hc19.2.2.1 hc19.2.2.2.1 ?_
      refine X_goto dX9_cutUp_93 (tgt := 7) rfl ?_
      exact X_weak [false, false, false, false, true, true] hc19.2.2.2.2
theorem qX9_cutUp {l : Launch} {G : GT} {Q : Int → Sh → Mem → Prop} {d : Nat} {S : Sh} {V : Mem} {mc ms : Nat} {x0 x1 x2 : Int} (h : 0 ≤ x0 → 0 ≤ x1 → inI x2 → XJ l G bX9_cutUp Q d 0 [vr x0, vr x1, vi x2, vu, vu, vu] [] S V mc ms) : Ct l G bX9_cutUp Q d mc ms [vr x0, vr x1, vi x2] S V := Ct.of okX9_cutUp.1 trivial (Nat.le_of_ble_eq_true rfl) (fun hv => h (hv _ (List.mem_of_getElem? (i := 0) rfl)) (hv _ (List.mem_of_getElem? (i := 1) rfl)) (hv _ (List.mem_of_getElem? (i := 2) rfl)))
set_option maxRecDepth 10000 in
theorem vX9_lengthOfName_0 {l : Launch} {G : GT} {Q : Int → Sh → Mem → Prop} {d : Nat} {S : Sh} {V : Mem} {mc ms : Nat} {x0 : Int} (h : XJ l G bX9_lengthOfName Q d 4 [vl x0, vu, vi 0, vl x0, vu] [] S V mc ms) : XJ l G bX9_lengthOfName Q d 0 [vl x0, vu, vu, vu, vu] [] S V mc ms := by
  refine X_iconst dX9_lengthOfName_0 (by decide) ?_
  refine X_istore_n dX9_lengthOfName_1 (by decide) rfl ?_
  refine X_lload_n dX9_lengthOfName_2 rfl ?_
  refine X_lstore_n dX9_lengthOfName_3 (by decide) rfl ?_
  exact h
set_option maxRecDepth 10000 in
theorem vX9_lengthOfName_4 {l : Launch} {G : GT} {Q : Int → Sh → Mem → Prop} {d : Nat} {S : Sh} {V : Mem} {mc ms : Nat} {x0 x2 x3 : Int} (h : (x3 ≤ 0 → Q x2 S V) ∧ (¬ (x3 ≤ 0) → -2147483648 ≤ x2 + 1 ∧ x2 + 1 ≤ 2147483647 ∧ XJ l G bX9_lengthOfName Q d 4 [vl x0, vu, vi (x2 + 1), vl (lUshr x3 6), vu] [] S V mc ms)) : XJ l G bX9_lengthOfName Q d 4 [vl x0, vu, vi x2, vl x3, vu] [] S V mc ms := by
  refine X_lload_n dX9_lengthOfName_4 rfl ?_
  refine X_lconst dX9_lengthOfName_5 ?_
  refine X_lc_le dX9_lengthOfName_6 dX9_lengthOfName_7 (tgt := 21) rfl (fun c1 => ?_) (fun c1 => ?_)
  · refine X_iload_n dX9_lengthOfName_21 rfl ?_
    exact X_ret (z := x2) dX9_lengthOfName_22 rfl (fun hv => vok_h hv) (h.1 c1)
  · refine X_iincN dX9_lengthOfName_10 rfl (by decide) rfl (e := x2 + 1) rfl (h.2 c1).1 (h.2 c1).2.1 ?_
    refine X_lload_n dX9_lengthOfName_13 rfl ?_
    refine X_bipush dX9_lengthOfName_14 (by decide) (by decide) ?_
    refine X_lushr dX9_lengthOfName_16 ?_
    refine X_lstore_n dX9_lengthOfName_17 (by decide) rfl ?_
    refine X_goto dX9_lengthOfName_18 (tgt := 4) rfl ?_
    exact (h.2 c1).2.2
theorem qX9_lengthOfName {l : Launch} {G : GT} {Q : Int → Sh → Mem → Prop} {d : Nat} {S : Sh} {V : Mem} {mc ms : Nat} {x0 : Int} (h : inL x0 → XJ l G bX9_lengthOfName Q d 0 [vl x0, vu, vu, vu, vu] [] S V mc ms) : Ct l G bX9_lengthOfName Q d mc ms [vl x0] S V := Ct.of okX9_lengthOfName.1 trivial (Nat.le_of_ble_eq_true rfl) (fun hv => h (hv _ (List.mem_of_getElem? (i := 0) rfl)))
set_option maxRecDepth 10000 in
theorem vX9_signOfName_0 {l : Launch} {G : GT} {Q : Int → Sh → Mem → Prop} {d : Nat} {S : Sh} {V : Mem} {mc ms : Nat} {x0 x2 : Int} (h : CT l G bX9_lengthOfName d mc ms [vl x0] S V (fun z1 S1 V1 mc1 ms1 => -2147483648 ≤ z1 - 1 ∧ z1 - 1 ≤ 2147483647 ∧ -2147483648 ≤ (z1 - 1) - x2 ∧ (z1 - 1) - x2 ≤ 2147483647 ∧ -2147483648 ≤ 6 * ((z1 - 1) - x2) ∧ 6 * ((z1 - 1) - x2) ≤ 2147483647 ∧ ((bAnd (wr (lUshr x0 (6 * ((z1 - 1) - x2)))) 63) < 1 → Q 0 S1 V1) ∧ (¬ ((bAnd (wr (lUshr x0 (6 * ((z1 - 1) - x2)))) 63) < 1) → CT l G bJ0_length_8abf5 d mc1 ms1 [vr ((G.2.2.2.1 2 : Int) + 1)] S1 V1 (fun z4 S4 V4 mc4 ms4 => ((bAnd (wr (lUshr x0 (6 * ((z1 - 1) - x2)))) 63) ≤ z4 → -2147483648 ≤ (bAnd (wr (lUshr x0 (6 * ((z1 - 1) - x2)))) 63) - 1 ∧ (bAnd (wr (lUshr x0 (6 * ((z1 - 1) - x2)))) 63) - 1 ≤ 2147483647 ∧ CT l G bJ0_charAt_5068e d mc4 ms4 [vr ((G.2.2.2.1 2 : Int) + 1), vi ((bAnd (wr (lUshr x0 (6 * ((z1 - 1) - x2)))) 63) - 1)] S4 V4 (fun z7 S7 V7 mc7 ms7 => Q z7 S7 V7)) ∧ (¬ ((bAnd (wr (lUshr x0 (6 * ((z1 - 1) - x2)))) 63) ≤ z4) → Q 0 S4 V4))))) : XJ l G bX9_signOfName Q d 0 [vl x0, vu, vi x2, vu] [] S V mc ms := by
  refine X_lload_n dX9_signOfName_0 rfl ?_
  refine X_bipush dX9_signOfName_1 (by decide) (by decide) ?_
  refine X_lload_n dX9_signOfName_3 rfl ?_
  refine X_invS (as := [vl x0]) (st := [vi 6, vl x0]) okX9_lengthOfName dX9_signOfName_4 km_RX9_64 rfl rfl (Nat.le_of_ble_eq_true rfl) (CT.imp h (fun z1 S1 V1 mc1 ms1 hc2 => ?_))
  refine X_iconst dX9_signOfName_7 (by decide) ?_
  refine X_isubN dX9_signOfName_8 hc2.1 hc2.2.1 ?_
  refine X_iload_n dX9_signOfName_9 rfl ?_
  refine X_isubN dX9_signOfName_10 hc2.2.2.1 hc2.2.2.2.1 ?_
  refine X_imulN dX9_signOfName_11 hc2.2.2.2.2.1 hc2.2.2.2.2.2.1 ?_
  refine X_lushr dX9_signOfName_12 ?_
  refine X_l2i dX9_signOfName_13 ?_
  refine X_bipush dX9_signOfName_14 (by decide) (by decide) ?_
  refine X_iand dX9_signOfName_16 ?_
  refine X_istore_n dX9_signOfName_17 (by decide) rfl ?_
  refine X_iload_n dX9_signOfName_18 rfl ?_
  refine X_iconst dX9_signOfName_19 (by decide) ?_
  refine X_icmp_lt dX9_signOfName_20 (tgt := 32) rfl (fun c3 => ?_) (fun c3 => ?_)
  · refine X_iconst dX9_signOfName_32 (by decide) ?_
    refine X_goto dX9_signOfName_33 (tgt := 44) rfl ?_
    exact X_ret (z := 0) dX9_signOfName_44 rfl (fun hv => vok_h hv) (hc2.2.2.2.2.2.2.1 c3)
  · refine X_iload_n dX9_signOfName_23 rfl ?_
    refine X_ldcS (i := 2) dX9_signOfName_24 (by decide) ⟨rfl, rfl⟩ ?_
    refine X_invStr (i := 2) (as := []) (st := [vi (bAnd (wr (lUshr x0 (6 * ((z1 - 1) - x2)))) 63)]) okJ0_length_8abf5 dX9_signOfName_26 km_RX9_31 rfl rfl (Nat.le_of_ble_eq_true rfl) (by decide) rfl (CT.imp (hc2.2.2.2.2.2.2.2 c3) (fun z4 S4 V4 mc4 ms4 hc5 => ?_))
    refine X_icmp_le dX9_signOfName_29 (tgt := 36) rfl (fun c6 => ?_) (fun c6 => ?_)
    · refine X_ldcS (i := 2) dX9_signOfName_36 (by decide) ⟨rfl, rfl⟩ ?_
      refine X_iload_n dX9_signOfName_38 rfl ?_
      refine X_iconst dX9_signOfName_39 (by decide) ?_
      refine X_isubN dX9_signOfName_40 (hc5.1 c6).1 (hc5.1 c6).2.1 ?_
      refine X_invStr (i := 2) (as := [vi ((bAnd (wr (lUshr x0 (6 * ((z1 - 1) - x2)))) 63) - 1)]) (st := []) okJ0_charAt_5068e dX9_signOfName_41 km_RX9_37 rfl rfl (Nat.le_of_ble_eq_true rfl) (by decide) rfl (CT.imp (hc5.1 c6).2.2 (fun z7 S7 V7 mc7 ms7 hc8 => ?_))
      exact X_ret (z := z7) dX9_signOfName_44 rfl (fun hv => vok_h hv) hc8
    · refine X_iconst dX9_signOfName_32 (by decide) ?_
      refine X_goto dX9_signOfName_33 (tgt := 44) rfl ?_
      exact X_ret (z := 0) dX9_signOfName_44 rfl (fun hv => vok_h hv) (hc5.2 c6)
theorem qX9_signOfName {l : Launch} {G : GT} {Q : Int → Sh → Mem → Prop} {d : Nat} {S : Sh} {V : Mem} {mc ms : Nat} {x0 x2 : Int} (h : inL x0 → inI x2 → XJ l G bX9_signOfName Q d 0 [vl x0, vu, vi x2, vu] [] S V mc ms) : Ct l G bX9_signOfName Q d mc ms [vl x0, vi x2] S V := Ct.of okX9_signOfName.1 trivial (Nat.le_of_ble_eq_true rfl) (fun hv => h (hv _ (List.mem_of_getElem? (i := 0) rfl)) (hv _ (List.mem_of_getElem? (i := 1) rfl)))
set_option maxRecDepth 10000 in
theorem vX9_rankOf_0 {l : Launch} {G : GT} {Q : Int → Sh → Mem → Prop} {d : Nat} {S : Sh} {V : Mem} {mc ms : Nat} {x0 : Int} (h : (x0 < 97 → (x0 < 65 → CT l G bX9_isDigit d mc ms [vi x0] S V (fun z3 S3 V3 mc3 ms3 => (z3 = 0 → Q 0 S3 V3) ∧ (¬ (z3 = 0) → -2147483648 ≤ x0 - 48 ∧ x0 - 48 ≤ 2147483647 ∧ -2147483648 ≤ (x0 - 48) + 53 ∧ (x0 - 48) + 53 ≤ 2147483647 ∧ Q ((x0 - 48) + 53) S3 V3))) ∧ (¬ (x0 < 65) → (90 < x0 → CT l G bX9_isDigit d mc ms [vi x0] S V (fun z7 S7 V7 mc7 ms7 => (z7 = 0 → Q 0 S7 V7) ∧ (¬ (z7 = 0) → -2147483648 ≤ x0 - 48 ∧ x0 - 48 ≤ 2147483647 ∧ -2147483648 ≤ (x0 - 48) + 53 ∧ (x0 - 48) + 53 ≤ 2147483647 ∧ Q ((x0 - 48) + 53) S7 V7))) ∧ (¬ (90 < x0) → -2147483648 ≤ x0 - 65 ∧ x0 - 65 ≤ 2147483647 ∧ -2147483648 ≤ (x0 - 65) + 27 ∧ (x0 - 65) + 27 ≤ 2147483647 ∧ Q ((x0 - 65) + 27) S V))) ∧ (¬ (x0 < 97) → (122 < x0 → (x0 < 65 → CT l G bX9_isDigit d mc ms [vi x0] S V (fun z12 S12 V12 mc12 ms12 => (z12 = 0 → Q 0 S12 V12) ∧ (¬ (z12 = 0) → -2147483648 ≤ x0 - 48 ∧ x0 - 48 ≤ 2147483647 ∧ -2147483648 ≤ (x0 - 48) + 53 ∧ (x0 - 48) + 53 ≤ 2147483647 ∧ Q ((x0 - 48) + 53) S12 V12))) ∧ (¬ (x0 < 65) → (90 < x0 → CT l G bX9_isDigit d mc ms [vi x0] S V (fun z16 S16 V16 mc16 ms16 => (z16 = 0 → Q 0 S16 V16) ∧ (¬ (z16 = 0) → -2147483648 ≤ x0 - 48 ∧ x0 - 48 ≤ 2147483647 ∧ -2147483648 ≤ (x0 - 48) + 53 ∧ (x0 - 48) + 53 ≤ 2147483647 ∧ Q ((x0 - 48) + 53) S16 V16))) ∧ (¬ (90 < x0) → -2147483648 ≤ x0 - 65 ∧ x0 - 65 ≤ 2147483647 ∧ -2147483648 ≤ (x0 - 65) + 27 ∧ (x0 - 65) + 27 ≤ 2147483647 ∧ Q ((x0 - 65) + 27) S V))) ∧ (¬ (122 < x0) → -2147483648 ≤ x0 - 97 ∧ x0 - 97 ≤ 2147483647 ∧ -2147483648 ≤ (x0 - 97) + 1 ∧ (x0 - 97) + 1 ≤ 2147483647 ∧ Q ((x0 - 97) + 1) S V))) : XJ l G bX9_rankOf Q d 0 [vi x0] [] S V mc ms := by
  refine X_iload_n dX9_rankOf_0 rfl ?_
  refine X_bipush dX9_rankOf_1 (by decide) (by decide) ?_
  refine X_icmp_lt dX9_rankOf_3 (tgt := 19) rfl (fun c1 => ?_) (fun c1 => ?_)
  · refine X_iload_n dX9_rankOf_19 rfl ?_
    refine X_bipush dX9_rankOf_20 (by decide) (by decide) ?_
    refine X_icmp_lt dX9_rankOf_22 (tgt := 39) rfl (fun c2 => ?_) (fun c2 => ?_)
    · refine X_iload_n dX9_rankOf_39 rfl ?_
      refine X_invS (as := [vi x0]) (st := []) okX9_isDigit dX9_rankOf_40 km_RX9_70 rfl rfl (Nat.le_of_ble_eq_true rfl) (CT.imp ((h.1 c1).1 c2) (fun z3 S3 V3 mc3 ms3 hc4 => ?_))
      refine X_if_eq dX9_rankOf_43 (tgt := 56) rfl (fun c5 => ?_) (fun c5 => ?_)
      · refine X_iconst dX9_rankOf_56 (by decide) ?_
        exact X_ret (z := 0) dX9_rankOf_57 rfl (fun hv => vok_h hv) (hc4.1 c5)
      · refine X_iload_n dX9_rankOf_46 rfl ?_
        refine X_bipush dX9_rankOf_47 (by decide) (by decide) ?_
        refine X_isubN dX9_rankOf_49 (hc4.2 c5).1 (hc4.2 c5).2.1 ?_
        refine X_bipush dX9_rankOf_50 (by decide) (by decide) ?_
        refine X_iaddN dX9_rankOf_52 (hc4.2 c5).2.2.1 (hc4.2 c5).2.2.2.1 ?_
        refine X_goto dX9_rankOf_53 (tgt := 57) rfl ?_
        exact X_ret (z := ((x0 - 48) + 53)) dX9_rankOf_57 rfl (fun hv => vok_h hv) (hc4.2 c5).2.2.2.2
    · refine X_iload_n dX9_rankOf_25 rfl ?_
      refine X_bipush dX9_rankOf_26 (by decide) (by decide) ?_
      refine X_icmp_gt dX9_rankOf_28 (tgt := 39) rfl (fun c6 => ?_) (fun c6 => ?_)
      · refine X_iload_n dX9_rankOf_39 rfl ?_
        refine X_invS (as := [vi x0]) (st := []) okX9_isDigit dX9_rankOf_40 km_RX9_70 rfl rfl (Nat.le_of_ble_eq_true rfl) (CT.imp (((h.1 c1).2 c2).1 c6) (fun z7 S7 V7 mc7 ms7 hc8 => ?_))
        refine X_if_eq dX9_rankOf_43 (tgt := 56) rfl (fun c9 => ?_) (fun c9 => ?_)
        · refine X_iconst dX9_rankOf_56 (by decide) ?_
          exact X_ret (z := 0) dX9_rankOf_57 rfl (fun hv => vok_h hv) (hc8.1 c9)
        · refine X_iload_n dX9_rankOf_46 rfl ?_
          refine X_bipush dX9_rankOf_47 (by decide) (by decide) ?_
          refine X_isubN dX9_rankOf_49 (hc8.2 c9).1 (hc8.2 c9).2.1 ?_
          refine X_bipush dX9_rankOf_50 (by decide) (by decide) ?_
          refine X_iaddN dX9_rankOf_52 (hc8.2 c9).2.2.1 (hc8.2 c9).2.2.2.1 ?_
          refine X_goto dX9_rankOf_53 (tgt := 57) rfl ?_
          exact X_ret (z := ((x0 - 48) + 53)) dX9_rankOf_57 rfl (fun hv => vok_h hv) (hc8.2 c9).2.2.2.2
      · refine X_iload_n dX9_rankOf_31 rfl ?_
        refine X_bipush dX9_rankOf_32 (by decide) (by decide) ?_
        refine X_isubN dX9_rankOf_34 (((h.1 c1).2 c2).2 c6).1 (((h.1 c1).2 c2).2 c6).2.1 ?_
        refine X_bipush dX9_rankOf_35 (by decide) (by decide) ?_
        refine X_iaddN dX9_rankOf_37 (((h.1 c1).2 c2).2 c6).2.2.1 (((h.1 c1).2 c2).2 c6).2.2.2.1 ?_
        exact X_ret (z := ((x0 - 65) + 27)) dX9_rankOf_38 rfl (fun hv => vok_h hv) (((h.1 c1).2 c2).2 c6).2.2.2.2
  · refine X_iload_n dX9_rankOf_6 rfl ?_
    refine X_bipush dX9_rankOf_7 (by decide) (by decide) ?_
    refine X_icmp_gt dX9_rankOf_9 (tgt := 19) rfl (fun c10 => ?_) (fun c10 => ?_)
    · refine X_iload_n dX9_rankOf_19 rfl ?_
      refine X_bipush dX9_rankOf_20 (by decide) (by decide) ?_
      refine X_icmp_lt dX9_rankOf_22 (tgt := 39) rfl (fun c11 => ?_) (fun c11 => ?_)
      · refine X_iload_n dX9_rankOf_39 rfl ?_
        refine X_invS (as := [vi x0]) (st := []) okX9_isDigit dX9_rankOf_40 km_RX9_70 rfl rfl (Nat.le_of_ble_eq_true rfl) (CT.imp (((h.2 c1).1 c10).1 c11) (fun z12 S12 V12 mc12 ms12 hc13 => ?_))
        refine X_if_eq dX9_rankOf_43 (tgt := 56) rfl (fun c14 => ?_) (fun c14 => ?_)
        · refine X_iconst dX9_rankOf_56 (by decide) ?_
          exact X_ret (z := 0) dX9_rankOf_57 rfl (fun hv => vok_h hv) (hc13.1 c14)
        · refine X_iload_n dX9_rankOf_46 rfl ?_
          refine X_bipush dX9_rankOf_47 (by decide) (by decide) ?_
          refine X_isubN dX9_rankOf_49 (hc13.2 c14).1 (hc13.2 c14).2.1 ?_
          refine X_bipush dX9_rankOf_50 (by decide) (by decide) ?_
          refine X_iaddN dX9_rankOf_52 (hc13.2 c14).2.2.1 (hc13.2 c14).2.2.2.1 ?_
          refine X_goto dX9_rankOf_53 (tgt := 57) rfl ?_
          exact X_ret (z := ((x0 - 48) + 53)) dX9_rankOf_57 rfl (fun hv => vok_h hv) (hc13.2 c14).2.2.2.2
      · refine X_iload_n dX9_rankOf_25 rfl ?_
        refine X_bipush dX9_rankOf_26 (by decide) (by decide) ?_
        refine X_icmp_gt dX9_rankOf_28 (tgt := 39) rfl (fun c15 => ?_) (fun c15 => ?_)
        · refine X_iload_n dX9_rankOf_39 rfl ?_
          refine X_invS (as := [vi x0]) (st := []) okX9_isDigit dX9_rankOf_40 km_RX9_70 rfl rfl (Nat.le_of_ble_eq_true rfl) (CT.imp ((((h.2 c1).1 c10).2 c11).1 c15) (fun z16 S16 V16 mc16 ms16 hc17 => ?_))
          refine X_if_eq dX9_rankOf_43 (tgt := 56) rfl (fun c18 => ?_) (fun c18 => ?_)
          · refine X_iconst dX9_rankOf_56 (by decide) ?_
            exact X_ret (z := 0) dX9_rankOf_57 rfl (fun hv => vok_h hv) (hc17.1 c18)
          · refine X_iload_n dX9_rankOf_46 rfl ?_
            refine X_bipush dX9_rankOf_47 (by decide) (by decide) ?_
            refine X_isubN dX9_rankOf_49 (hc17.2 c18).1 (hc17.2 c18).2.1 ?_
            refine X_bipush dX9_rankOf_50 (by decide) (by decide) ?_
            refine X_iaddN dX9_rankOf_52 (hc17.2 c18).2.2.1 (hc17.2 c18).2.2.2.1 ?_
            refine X_goto dX9_rankOf_53 (tgt := 57) rfl ?_
            exact X_ret (z := ((x0 - 48) + 53)) dX9_rankOf_57 rfl (fun hv => vok_h hv) (hc17.2 c18).2.2.2.2
        · refine X_iload_n dX9_rankOf_31 rfl ?_
          refine X_bipush dX9_rankOf_32 (by decide) (by decide) ?_
          refine X_isubN dX9_rankOf_34 ((((h.2 c1).1 c10).2 c11).2 c15).1 ((((h.2 c1).1 c10).2 c11).2 c15).2.1 ?_
          refine X_bipush dX9_rankOf_35 (by decide) (by decide) ?_
          refine X_iaddN dX9_rankOf_37 ((((h.2 c1).1 c10).2 c11).2 c15).2.2.1 ((((h.2 c1).1 c10).2 c11).2 c15).2.2.2.1 ?_
          exact X_ret (z := ((x0 - 65) + 27)) dX9_rankOf_38 rfl (fun hv => vok_h hv) ((((h.2 c1).1 c10).2 c11).2 c15).2.2.2.2
    · refine X_iload_n dX9_rankOf_12 rfl ?_
      refine X_bipush dX9_rankOf_13 (by decide) (by decide) ?_
      refine X_isubN dX9_rankOf_15 ((h.2 c1).2 c10).1 ((h.2 c1).2 c10).2.1 ?_
      refine X_iconst dX9_rankOf_16 (by decide) ?_
      refine X_iaddN dX9_rankOf_17 ((h.2 c1).2 c10).2.2.1 ((h.2 c1).2 c10).2.2.2.1 ?_
      exact X_ret (z := ((x0 - 97) + 1)) dX9_rankOf_18 rfl (fun hv => vok_h hv) ((h.2 c1).2 c10).2.2.2.2
theorem qX9_rankOf {l : Launch} {G : GT} {Q : Int → Sh → Mem → Prop} {d : Nat} {S : Sh} {V : Mem} {mc ms : Nat} {x0 : Int} (h : inI x0 → XJ l G bX9_rankOf Q d 0 [vi x0] [] S V mc ms) : Ct l G bX9_rankOf Q d mc ms [vi x0] S V := Ct.of okX9_rankOf.1 trivial (Nat.le_of_ble_eq_true rfl) (fun hv => h (hv _ (List.mem_of_getElem? (i := 0) rfl)))
set_option maxRecDepth 10000 in
theorem vX9_isDigit_0 {l : Launch} {G : GT} {Q : Int → Sh → Mem → Prop} {d : Nat} {S : Sh} {V : Mem} {mc ms : Nat} {x0 : Int} (h : (x0 < 48 → Q 0 S V) ∧ (¬ (x0 < 48) → (57 < x0 → Q 0 S V) ∧ (¬ (57 < x0) → Q 1 S V))) : XJ l G bX9_isDigit Q d 0 [vi x0] [] S V mc ms := by
  refine X_iload_n dX9_isDigit_0 rfl ?_
  refine X_bipush dX9_isDigit_1 (by decide) (by decide) ?_
  refine X_icmp_lt dX9_isDigit_3 (tgt := 16) rfl (fun c1 => ?_) (fun c1 => ?_)
  · refine X_iconst dX9_isDigit_16 (by decide) ?_
    exact X_ret (z := 0) dX9_isDigit_17 rfl (fun _ => Or.inl rfl) (h.1 c1)
  · refine X_iload_n dX9_isDigit_6 rfl ?_
    refine X_bipush dX9_isDigit_7 (by decide) (by decide) ?_
    refine X_icmp_gt dX9_isDigit_9 (tgt := 16) rfl (fun c2 => ?_) (fun c2 => ?_)
    · refine X_iconst dX9_isDigit_16 (by decide) ?_
      exact X_ret (z := 0) dX9_isDigit_17 rfl (fun _ => Or.inl rfl) ((h.2 c1).1 c2)
    · refine X_iconst dX9_isDigit_12 (by decide) ?_
      refine X_goto dX9_isDigit_13 (tgt := 17) rfl ?_
      exact X_ret (z := 1) dX9_isDigit_17 rfl (fun _ => Or.inr rfl) ((h.2 c1).2 c2)
theorem qX9_isDigit {l : Launch} {G : GT} {Q : Int → Sh → Mem → Prop} {d : Nat} {S : Sh} {V : Mem} {mc ms : Nat} {x0 : Int} (h : inI x0 → XJ l G bX9_isDigit Q d 0 [vi x0] [] S V mc ms) : Ct l G bX9_isDigit Q d mc ms [vi x0] S V := Ct.of okX9_isDigit.1 trivial (Nat.le_of_ble_eq_true rfl) (fun hv => h (hv _ (List.mem_of_getElem? (i := 0) rfl)))
set_option maxRecDepth 10000 in
theorem vX9_rowEnd_0 {l : Launch} {G : GT} {Q : Int → Sh → Mem → Prop} {d : Nat} {S : Sh} {V : Mem} {mc ms : Nat} {x0 x1 x2 : Int} (h : XJ l G bX9_rowEnd Q d 2 [vr x0, vi x1, vi x2, vi x1] [] S V mc ms) : XJ l G bX9_rowEnd Q d 0 [vr x0, vi x1, vi x2, vu] [] S V mc ms := by
  refine X_iload_n dX9_rowEnd_0 rfl ?_
  refine X_istore_n dX9_rowEnd_1 (by decide) rfl ?_
  exact h
set_option maxRecDepth 10000 in
theorem vX9_rowEnd_2 {l : Launch} {G : GT} {Q : Int → Sh → Mem → Prop} {d : Nat} {S : Sh} {V : Mem} {mc ms : Nat} {x0 x1 x2 x3 : Int} (h : (x2 ≤ x3 → Q x3 S V) ∧ (¬ (x2 ≤ x3) → S.1 x0 = 21 ∧ 0 ≤ x3 ∧ x3 < S.2.1 x0 ∧ CT l G bX9_rankOf d mc ms [vi (V x0 x3)] S V (fun z2 S2 V2 mc2 ms2 => (z2 ≤ 0 → Q x3 S2 V2) ∧ (¬ (z2 ≤ 0) → -2147483648 ≤ x3 + 1 ∧ x3 + 1 ≤ 2147483647 ∧ XJ l G bX9_rowEnd Q d 2 [vr x0, vi x1, vi x2, vi (x3 + 1)] [] S2 V2 mc2 ms2)))) : XJ l G bX9_rowEnd Q d 2 [vr x0, vi x1, vi x2, vi x3] [] S V mc ms := by
  refine X_iload_n dX9_rowEnd_2 rfl ?_
  refine X_iload_n dX9_rowEnd_3 rfl ?_
  refine X_icmp_ge dX9_rowEnd_4 (tgt := 22) rfl (fun c1 => ?_) (fun c1 => ?_)
  · refine X_iload_n dX9_rowEnd_22 rfl ?_
    exact X_ret (z := x3) dX9_rowEnd_23 rfl (fun hv => vok_h hv) (h.1 c1)
  · refine X_aload_n dX9_rowEnd_7 rfl ?_
    refine X_iload_n dX9_rowEnd_8 rfl ?_
    refine X_baload dX9_rowEnd_9 (h.2 c1).1 (h.2 c1).2.1 (h.2 c1).2.2.1 ?_
    refine X_invS (as := [vi (V x0 x3)]) (st := []) okX9_rankOf dX9_rowEnd_10 km_RX9_41 rfl rfl (Nat.le_of_ble_eq_true rfl) (CT.imp (h.2 c1).2.2.2 (fun z2 S2 V2 mc2 ms2 hc3 => ?_))
    refine X_if_le dX9_rowEnd_13 (tgt := 22) rfl (fun c4 => ?_) (fun c4 => ?_)
    · refine X_iload_n dX9_rowEnd_22 rfl ?_
      exact X_ret (z := x3) dX9_rowEnd_23 rfl (fun hv => vok_h hv) (hc3.1 c4)
    · refine X_iincN dX9_rowEnd_16 rfl (by decide) rfl (e := x3 + 1) rfl (hc3.2 c4).1 (hc3.2 c4).2.1 ?_
      refine X_goto dX9_rowEnd_19 (tgt := 2) rfl ?_
      exact (hc3.2 c4).2.2
theorem qX9_rowEnd {l : Launch} {G : GT} {Q : Int → Sh → Mem → Prop} {d : Nat} {S : Sh} {V : Mem} {mc ms : Nat} {x0 x1 x2 : Int} (h : 0 ≤ x0 → inI x1 → inI x2 → XJ l G bX9_rowEnd Q d 0 [vr x0, vi x1, vi x2, vu] [] S V mc ms) : Ct l G bX9_rowEnd Q d mc ms [vr x0, vi x1, vi x2] S V := Ct.of okX9_rowEnd.1 trivial (Nat.le_of_ble_eq_true rfl) (fun hv => h (hv _ (List.mem_of_getElem? (i := 0) rfl)) (hv _ (List.mem_of_getElem? (i := 1) rfl)) (hv _ (List.mem_of_getElem? (i := 2) rfl)))
set_option maxRecDepth 10000 in
theorem vX9_keepRow_0 {l : Launch} {G : GT} {Q : Int → Sh → Mem → Prop} {d : Nat} {S : Sh} {V : Mem} {mc ms : Nat} {x0 x1 x2 x3 : Int} (h : S.1 x1 = 21 ∧ 0 ≤ x2 ∧ x2 < S.2.1 x1 ∧ CT l G bX9_isDigit d mc ms [vi (V x1 x2)] S V (fun z1 S1 V1 mc1 ms1 => (z1 = 0 → S1.1 x0 = 10 ∧ CT l G bX9_keepWord d mc1 ms1 [vr x0, vr x1, vi x2, vi x3] S1 V1 (fun z4 S4 V4 mc4 ms4 => Q 0 S4 V4)) ∧ (¬ (z1 = 0) → S1.1 x0 = 10 ∧ CT l G bX9_keepNumber d mc1 ms1 [vr x0, vr x1, vi x2, vi x3] S1 V1 (fun z6 S6 V6 mc6 ms6 => Q 0 S6 V6)))) : XJ l G bX9_keepRow Q d 0 [vr x0, vr x1, vi x2, vi x3] [] S V mc ms := by
  refine X_aload_n dX9_keepRow_0 rfl ?_
  refine X_iload_n dX9_keepRow_1 rfl ?_
  refine X_baload dX9_keepRow_2 h.1 h.2.1 h.2.2.1 ?_
  refine X_invS (as := [vi (V x1 x2)]) (st := []) okX9_isDigit dX9_keepRow_3 km_RX9_70 rfl rfl (Nat.le_of_ble_eq_true rfl) (CT.imp h.2.2.2 (fun z1 S1 V1 mc1 ms1 hc2 => ?_))
  refine X_if_eq dX9_keepRow_6 (tgt := 19) rfl (fun c3 => ?_) (fun c3 => ?_)
  · refine X_aload_n dX9_keepRow_19 rfl ?_
    refine X_aload_n dX9_keepRow_20 rfl ?_
    refine X_iload_n dX9_keepRow_21 rfl ?_
    refine X_iload_n dX9_keepRow_22 rfl ?_
    refine X_invV (ci := 9) (as := [vr x1, vi x2, vi x3]) (st := []) okX9_keepWord dX9_keepRow_23 km_RX9_77 rfl rfl (Nat.le_of_ble_eq_true rfl) rfl rfl (hc2.1 c3).1 (CT.imp (hc2.1 c3).2 (fun z4 S4 V4 mc4 ms4 hc5 => ?_))
    exact X_ret (z := 0) dX9_keepRow_26 rfl (fun _ => trivial) hc5
  · refine X_aload_n dX9_keepRow_9 rfl ?_
    refine X_aload_n dX9_keepRow_10 rfl ?_
    refine X_iload_n dX9_keepRow_11 rfl ?_
    refine X_iload_n dX9_keepRow_12 rfl ?_
    refine X_invV (ci := 9) (as := [vr x1, vi x2, vi x3]) (st := []) okX9_keepNumber dX9_keepRow_13 km_RX9_74 rfl rfl (Nat.le_of_ble_eq_true rfl) rfl rfl (hc2.2 c3).1 (CT.imp (hc2.2 c3).2 (fun z6 S6 V6 mc6 ms6 hc7 => ?_))
    refine X_goto dX9_keepRow_16 (tgt := 26) rfl ?_
    exact X_ret (z := 0) dX9_keepRow_26 rfl (fun _ => trivial) hc7
theorem qX9_keepRow {l : Launch} {G : GT} {Q : Int → Sh → Mem → Prop} {d : Nat} {S : Sh} {V : Mem} {mc ms : Nat} {x0 x1 x2 x3 : Int} (h : 0 ≤ x0 → 0 ≤ x1 → inI x2 → inI x3 → XJ l G bX9_keepRow Q d 0 [vr x0, vr x1, vi x2, vi x3] [] S V mc ms) : Ct l G bX9_keepRow Q d mc ms [vr x0, vr x1, vi x2, vi x3] S V := Ct.of okX9_keepRow.1 trivial (Nat.le_of_ble_eq_true rfl) (fun hv => h (hv _ (List.mem_of_getElem? (i := 0) rfl)) (hv _ (List.mem_of_getElem? (i := 1) rfl)) (hv _ (List.mem_of_getElem? (i := 2) rfl)) (hv _ (List.mem_of_getElem? (i := 3) rfl)))
set_option maxRecDepth 10000 in
theorem vX9_keepNumber_0 {l : Launch} {G : GT} {Q : Int → Sh → Mem → Prop} {d : Nat} {S : Sh} {V : Mem} {mc ms : Nat} {x0 x1 x2 x3 : Int} (h : -2147483648 ≤ x3 - x2 ∧ x3 - x2 ≤ 2147483647 ∧ (9 < (x3 - x2) → XJ l G bX9_keepNumber Q d 21 [vr x0, vr x1, vi x2, vi x3, vi 0, vl 0, vu, vi x2] [] S V mc ms) ∧ (¬ (9 < (x3 - x2)) → XJ l G bX9_keepNumber Q d 21 [vr x0, vr x1, vi x2, vi x3, vi 1, vl 0, vu, vi x2] [] S V mc ms)) : XJ l G bX9_keepNumber Q d 0 [vr x0, vr x1, vi x2, vi x3, vu, vu, vu, vu] [] S V mc ms := by
  refine X_iload_n dX9_keepNumber_0 rfl ?_
  refine X_iload_n dX9_keepNumber_1 rfl ?_
  refine X_isubN dX9_keepNumber_2 h.1 h.2.1 ?_
  refine X_bipush dX9_keepNumber_3 (by decide) (by decide) ?_
  refine X_icmp_gt dX9_keepNumber_5 (tgt := 12) rfl (fun c1 => ?_) (fun c1 => ?_)
  · refine X_iconst dX9_keepNumber_12 (by decide) ?_
    refine X_istore dX9_keepNumber_13 (by decide) rfl ?_
    refine X_lconst dX9_keepNumber_15 ?_
    refine X_lstore dX9_keepNumber_16 (by decide) rfl ?_
    refine X_iload_n dX9_keepNumber_18 rfl ?_
    refine X_istore dX9_keepNumber_19 (by decide) rfl ?_
    exact (h.2.2.1 c1)
  · refine X_iconst dX9_keepNumber_8 (by decide) ?_
    refine X_goto dX9_keepNumber_9 (tgt := 13) rfl ?_
    refine X_istore dX9_keepNumber_13 (by decide) rfl ?_
    refine X_lconst dX9_keepNumber_15 ?_
    refine X_lstore dX9_keepNumber_16 (by decide) rfl ?_
    refine X_iload_n dX9_keepNumber_18 rfl ?_
    refine X_istore dX9_keepNumber_19 (by decide) rfl ?_
    exact (h.2.2.2 c1)
set_option maxRecDepth 10000 in
theorem vX9_keepNumber_21 {l : Launch} {G : GT} {Q : Int → Sh → Mem → Prop} {d : Nat} {S : Sh} {V : Mem} {mc ms : Nat} {x0 x1 x2 x3 x4 x5 x7 : Int} (h : (x3 ≤ x7 → (x4 = 0 → S.1 x0 = 10 ∧ CT l G bX9_keep d mc ms [vr x0, vi 0, vi x2, vl x5] S V (fun z3 S3 V3 mc3 ms3 => Q 0 S3 V3)) ∧ (¬ (x4 = 0) → S.1 x0 = 10 ∧ CT l G bX9_keep d mc ms [vr x0, vi 2, vi x2, vl x5] S V (fun z5 S5 V5 mc5 ms5 => Q 0 S5 V5))) ∧ (¬ (x3 ≤ x7) → (x4 = 0 → (x4 = 0 → S.1 x0 = 10 ∧ CT l G bX9_keep d mc ms [vr x0, vi 0, vi x2, vl x5] S V (fun z9 S9 V9 mc9 ms9 => Q 0 S9 V9)) ∧ (¬ (x4 = 0) → S.1 x0 = 10 ∧ CT l G bX9_keep d mc ms [vr x0, vi 2, vi x2, vl x5] S V (fun z11 S11 V11 mc11 ms11 => Q 0 S11 V11))) ∧ (¬ (x4 = 0) → S.1 x1 = 21 ∧ 0 ≤ x7 ∧ x7 < S.2.1 x1 ∧ CT l G bX9_isDigit d mc ms [vi (V x1 x7)] S V (fun z13 S13 V13 mc13 ms13 => -9223372036854775808 ≤ x5 * 10 ∧ x5 * 10 ≤ 9223372036854775807 ∧ S13.1 x1 = 21 ∧ 0 ≤ x7 ∧ x7 < S13.2.1 x1 ∧ -2147483648 ≤ (V13 x1 x7) - 48 ∧ (V13 x1 x7) - 48 ≤ 2147483647 ∧ -9223372036854775808 ≤ (x5 * 10) + ((V13 x1 x7) - 48) ∧ (x5 * 10) + ((V13 x1 x7) - 48) ≤ 9223372036854775807 ∧ -2147483648 ≤ x7 + 1 ∧ x7 + 1 ≤ 2147483647 ∧ XJ l G bX9_keepNumber Q d 21 [vr x0, vr x1, vi x2, vi x3, vi z13, vl ((x5 * 10) + ((V13 x1 x7) - 48)), vu, vi (x7 + 1)] [] S13 V13 mc13 ms13)))) : XJ l G bX9_keepNumber Q d 21 [vr x0, vr x1, vi x2, vi x3, vi x4, vl x5, vu, vi x7] [] S V mc ms := by
  refine X_iload dX9_keepNumber_21 rfl ?_
  refine X_iload_n dX9_keepNumber_23 rfl ?_
  refine X_icmp_ge dX9_keepNumber_24 (tgt := 64) rfl (fun c1 => ?_) (fun c1 => ?_)
  · refine X_aload_n dX9_keepNumber_64 rfl ?_
    refine X_iload dX9_keepNumber_65 rfl ?_
    refine X_if_eq dX9_keepNumber_67 (tgt := 74) rfl (fun c2 => ?_) (fun c2 => ?_)
    · refine X_iconst dX9_keepNumber_74 (by decide) ?_
      refine X_iload_n dX9_keepNumber_75 rfl ?_
      refine X_lload dX9_keepNumber_76 rfl ?_
      refine X_invV (ci := 9) (as := [vi 0, vi x2, vl x5]) (st := []) okX9_keep dX9_keepNumber_78 km_RX9_60 rfl rfl (Nat.le_of_ble_eq_true rfl) rfl rfl ((h.1 c1).1 c2).1 (CT.imp ((h.1 c1).1 c2).2 (fun z3 S3 V3 mc3 ms3 hc4 => ?_))
      exact X_ret (z := 0) dX9_keepNumber_81 rfl (fun _ => trivial) hc4
    · refine X_iconst dX9_keepNumber_70 (by decide) ?_
      refine X_goto dX9_keepNumber_71 (tgt := 75) rfl ?_
      refine X_iload_n dX9_keepNumber_75 rfl ?_
      refine X_lload dX9_keepNumber_76 rfl ?_
      refine X_invV (ci := 9) (as := [vi 2, vi x2, vl x5]) (st := []) okX9_keep dX9_keepNumber_78 km_RX9_60 rfl rfl (Nat.le_of_ble_eq_true rfl) rfl rfl ((h.1 c1).2 c2).1 (CT.imp ((h.1 c1).2 c2).2 (fun z5 S5 V5 mc5 ms5 hc6 => ?_))
      exact X_ret (z := 0) dX9_keepNumber_81 rfl (fun _ => trivial) hc6
  · refine X_iload dX9_keepNumber_27 rfl ?_
    refine X_if_eq dX9_keepNumber_29 (tgt := 64) rfl (fun c7 => ?_) (fun c7 => ?_)
    · refine X_aload_n dX9_keepNumber_64 rfl ?_
      refine X_iload dX9_keepNumber_65 rfl ?_
      refine X_if_eq dX9_keepNumber_67 (tgt := 74) rfl (fun c8 => ?_) (fun c8 => ?_)
      · refine X_iconst dX9_keepNumber_74 (by decide) ?_
        refine X_iload_n dX9_keepNumber_75 rfl ?_
        refine X_lload dX9_keepNumber_76 rfl ?_
        refine X_invV (ci := 9) (as := [vi 0, vi x2, vl x5]) (st := []) okX9_keep dX9_keepNumber_78 km_RX9_60 rfl rfl (Nat.le_of_ble_eq_true rfl) rfl rfl (((h.2 c1).1 c7).1 c8).1 (CT.imp (((h.2 c1).1 c7).1 c8).2 (fun z9 S9 V9 mc9 ms9 hc10 => ?_))
        exact X_ret (z := 0) dX9_keepNumber_81 rfl (fun _ => trivial) hc10
      · refine X_iconst dX9_keepNumber_70 (by decide) ?_
        refine X_goto dX9_keepNumber_71 (tgt := 75) rfl ?_
        refine X_iload_n dX9_keepNumber_75 rfl ?_
        refine X_lload dX9_keepNumber_76 rfl ?_
        refine X_invV (ci := 9) (as := [vi 2, vi x2, vl x5]) (st := []) okX9_keep dX9_keepNumber_78 km_RX9_60 rfl rfl (Nat.le_of_ble_eq_true rfl) rfl rfl (((h.2 c1).1 c7).2 c8).1 (CT.imp (((h.2 c1).1 c7).2 c8).2 (fun z11 S11 V11 mc11 ms11 hc12 => ?_))
        exact X_ret (z := 0) dX9_keepNumber_81 rfl (fun _ => trivial) hc12
    · refine X_aload_n dX9_keepNumber_32 rfl ?_
      refine X_iload dX9_keepNumber_33 rfl ?_
      refine X_baload dX9_keepNumber_35 ((h.2 c1).2 c7).1 ((h.2 c1).2 c7).2.1 ((h.2 c1).2 c7).2.2.1 ?_
      refine X_invS (as := [vi (V x1 x7)]) (st := []) okX9_isDigit dX9_keepNumber_36 km_RX9_70 rfl rfl (Nat.le_of_ble_eq_true rfl) (CT.imp ((h.2 c1).2 c7).2.2.2 (fun z13 S13 V13 mc13 ms13 hc14 => ?_))
      refine X_istore dX9_keepNumber_39 (by decide) rfl ?_
      refine X_lload dX9_keepNumber_41 rfl ?_
      refine X_ldc2 dX9_keepNumber_43 kl_RX9_80 (by decide) ?_
      refine X_lmulN dX9_keepNumber_46 hc14.1 hc14.2.1 ?_
      refine X_aload_n dX9_keepNumber_47 rfl ?_
      refine X_iload dX9_keepNumber_48 rfl ?_
      refine X_baload dX9_keepNumber_50 hc14.2.2.1 hc14.2.2.2.1 hc14.2.2.2.2.1 ?_
      refine X_bipush dX9_keepNumber_51 (by decide) (by decide) ?_
      refine X_isubN dX9_keepNumber_53 hc14.2.2.2.2.2.1 hc14.2.2.2.2.2.2.1 ?_
      refine X_i2l dX9_keepNumber_54 ?_
      refine X_laddN dX9_keepNumber_55 hc14.2.2.2.2.2.2.2.1 hc14.2.2.2.2.2.2.2.2.1 ?_
      refine X_lstore dX9_keepNumber_56 (by decide) rfl ?_
      refine X_iincN dX9_keepNumber_58 rfl (by decide) rfl (e := x7 + 1) rfl hc14.2.2.2.2.2.2.2.2.2.1 hc14.2.2.2.2.2.2.2.2.2.2.1 ?_
      refine X_goto dX9_keepNumber_61 (tgt := 21) rfl ?_
      exact hc14.2.2.2.2.2.2.2.2.2.2.2
theorem qX9_keepNumber {l : Launch} {G : GT} {Q : Int → Sh → Mem → Prop} {d : Nat} {S : Sh} {V : Mem} {mc ms : Nat} {x0 x1 x2 x3 : Int} (h : 0 ≤ x0 → 0 ≤ x1 → inI x2 → inI x3 → XJ l G bX9_keepNumber Q d 0 [vr x0, vr x1, vi x2, vi x3, vu, vu, vu, vu] [] S V mc ms) : Ct l G bX9_keepNumber Q d mc ms [vr x0, vr x1, vi x2, vi x3] S V := Ct.of okX9_keepNumber.1 trivial (Nat.le_of_ble_eq_true rfl) (fun hv => h (hv _ (List.mem_of_getElem? (i := 0) rfl)) (hv _ (List.mem_of_getElem? (i := 1) rfl)) (hv _ (List.mem_of_getElem? (i := 2) rfl)) (hv _ (List.mem_of_getElem? (i := 3) rfl)))
set_option maxRecDepth 10000 in
theorem vX9_keepWord_0 {l : Launch} {G : GT} {Q : Int → Sh → Mem → Prop} {d : Nat} {S : Sh} {V : Mem} {mc ms : Nat} {x0 x1 x2 x3 : Int} (h : -2147483648 ≤ x3 - x2 ∧ x3 - x2 ≤ 2147483647 ∧ ((x3 - x2) ≤ 10 → XJ l G bX9_keepWord Q d 22 [vr x0, vr x1, vi x2, vi x3, vl 0, vu, vi x2] [] S V mc ms) ∧ (¬ ((x3 - x2) ≤ 10) → S.1 x0 = 10 ∧ CT l G bX9_keep d mc ms [vr x0, vi 0, vi x2, vl 0] S V (fun z2 S2 V2 mc2 ms2 => Q 0 S2 V2))) : XJ l G bX9_keepWord Q d 0 [vr x0, vr x1, vi x2, vi x3, vu, vu, vu] [] S V mc ms := by
  refine X_iload_n dX9_keepWord_0 rfl ?_
  refine X_iload_n dX9_keepWord_1 rfl ?_
  refine X_isubN dX9_keepWord_2 h.1 h.2.1 ?_
  refine X_bipush dX9_keepWord_3 (by decide) (by decide) ?_
  refine X_icmp_le dX9_keepWord_5 (tgt := 16) rfl (fun c1 => ?_) (fun c1 => ?_)
  · refine X_lconst dX9_keepWord_16 ?_
    refine X_lstore dX9_keepWord_17 (by decide) rfl ?_
    refine X_iload_n dX9_keepWord_19 rfl ?_
    refine X_istore dX9_keepWord_20 (by decide) rfl ?_
    exact (h.2.2.1 c1)
  · refine X_aload_n dX9_keepWord_8 rfl ?_
    refine X_iconst dX9_keepWord_9 (by decide) ?_
    refine X_iload_n dX9_keepWord_10 rfl ?_
    refine X_lconst dX9_keepWord_11 ?_
    refine X_invV (ci := 9) (as := [vi 0, vi x2, vl 0]) (st := []) okX9_keep dX9_keepWord_12 km_RX9_60 rfl rfl (Nat.le_of_ble_eq_true rfl) rfl rfl (h.2.2.2 c1).1 (CT.imp (h.2.2.2 c1).2 (fun z2 S2 V2 mc2 ms2 hc3 => ?_))
    exact X_ret (z := 0) dX9_keepWord_15 rfl (fun _ => trivial) hc3
set_option maxRecDepth 10000 in
theorem vX9_keepWord_22 {l : Launch} {G : GT} {Q : Int → Sh → Mem → Prop} {d : Nat} {S : Sh} {V : Mem} {mc ms : Nat} {x0 x1 x2 x3 x4 x6 : Int} (h : (x3 ≤ x6 → S.1 x0 = 10 ∧ CT l G bX9_kindOfWord d mc ms [vr x0, vl x4] S V (fun z2 S2 V2 mc2 ms2 => S2.1 x0 = 10 ∧ CT l G bX9_keep d mc2 ms2 [vr x0, vi z2, vi x2, vl x4] S2 V2 (fun z4 S4 V4 mc4 ms4 => Q 0 S4 V4))) ∧ (¬ (x3 ≤ x6) → -9223372036854775808 ≤ x4 * 64 ∧ x4 * 64 ≤ 9223372036854775807 ∧ S.1 x1 = 21 ∧ 0 ≤ x6 ∧ x6 < S.2.1 x1 ∧ CT l G bX9_rankOf d mc ms [vi (V x1 x6)] S V (fun z6 S6 V6 mc6 ms6 => -9223372036854775808 ≤ (x4 * 64) + z6 ∧ (x4 * 64) + z6 ≤ 9223372036854775807 ∧ -2147483648 ≤ x6 + 1 ∧ x6 + 1 ≤ 2147483647 ∧ XJ l G bX9_keepWord Q d 22 [vr x0, vr x1, vi x2, vi x3, vl ((x4 * 64) + z6), vu, vi (x6 + 1)] [] S6 V6 mc6 ms6))) : XJ l G bX9_keepWord Q d 22 [vr x0, vr x1, vi x2, vi x3, vl x4, vu, vi x6] [] S V mc ms := by
  refine X_iload dX9_keepWord_22 rfl ?_
  refine X_iload_n dX9_keepWord_24 rfl ?_
  refine X_icmp_ge dX9_keepWord_25 (tgt := 51) rfl (fun c1 => ?_) (fun c1 => ?_)
  · refine X_aload_n dX9_keepWord_51 rfl ?_
    refine X_aload_n dX9_keepWord_52 rfl ?_
    refine X_lload dX9_keepWord_53 rfl ?_
    refine X_invV (ci := 9) (as := [vl x4]) (st := [vr x0]) okX9_kindOfWord dX9_keepWord_55 km_RX9_82 rfl rfl (Nat.le_of_ble_eq_true rfl) rfl rfl (h.1 c1).1 (CT.imp (h.1 c1).2 (fun z2 S2 V2 mc2 ms2 hc3 => ?_))
    refine X_iload_n dX9_keepWord_58 rfl ?_
    refine X_lload dX9_keepWord_59 rfl ?_
    refine X_invV (ci := 9) (as := [vi z2, vi x2, vl x4]) (st := []) okX9_keep dX9_keepWord_61 km_RX9_60 rfl rfl (Nat.le_of_ble_eq_true rfl) rfl rfl hc3.1 (CT.imp hc3.2 (fun z4 S4 V4 mc4 ms4 hc5 => ?_))
    exact X_ret (z := 0) dX9_keepWord_64 rfl (fun _ => trivial) hc5
  · refine X_lload dX9_keepWord_28 rfl ?_
    refine X_ldc2 dX9_keepWord_30 kl_RX9_45 (by decide) ?_
    refine X_lmulN dX9_keepWord_33 (h.2 c1).1 (h.2 c1).2.1 ?_
    refine X_aload_n dX9_keepWord_34 rfl ?_
    refine X_iload dX9_keepWord_35 rfl ?_
    refine X_baload dX9_keepWord_37 (h.2 c1).2.2.1 (h.2 c1).2.2.2.1 (h.2 c1).2.2.2.2.1 ?_
    refine X_invS (as := [vi (V x1 x6)]) (st := [vl (x4 * 64)]) okX9_rankOf dX9_keepWord_38 km_RX9_41 rfl rfl (Nat.le_of_ble_eq_true rfl) (CT.imp (h.2 c1).2.2.2.2.2 (fun z6 S6 V6 mc6 ms6 hc7 => ?_))
    refine X_i2l dX9_keepWord_41 ?_
    refine X_laddN dX9_keepWord_42 hc7.1 hc7.2.1 ?_
    refine X_lstore dX9_keepWord_43 (by decide) rfl ?_
    refine X_iincN dX9_keepWord_45 rfl (by decide) rfl (e := x6 + 1) rfl hc7.2.2.1 hc7.2.2.2.1 ?_
    refine X_goto dX9_keepWord_48 (tgt := 22) rfl ?_
    exact hc7.2.2.2.2
theorem qX9_keepWord {l : Launch} {G : GT} {Q : Int → Sh → Mem → Prop} {d : Nat} {S : Sh} {V : Mem} {mc ms : Nat} {x0 x1 x2 x3 : Int} (h : 0 ≤ x0 → 0 ≤ x1 → inI x2 → inI x3 → XJ l G bX9_keepWord Q d 0 [vr x0, vr x1, vi x2, vi x3, vu, vu, vu] [] S V mc ms) : Ct l G bX9_keepWord Q d mc ms [vr x0, vr x1, vi x2, vi x3] S V := Ct.of okX9_keepWord.1 trivial (Nat.le_of_ble_eq_true rfl) (fun hv => h (hv _ (List.mem_of_getElem? (i := 0) rfl)) (hv _ (List.mem_of_getElem? (i := 1) rfl)) (hv _ (List.mem_of_getElem? (i := 2) rfl)) (hv _ (List.mem_of_getElem? (i := 3) rfl)))
set_option maxRecDepth 10000 in
theorem vX9_kindOfWord_0 {l : Launch} {G : GT} {Q : Int → Sh → Mem → Prop} {d : Nat} {S : Sh} {V : Mem} {mc ms : Nat} {x0 x1 : Int} (h : XJ l G bX9_kindOfWord Q d 2 [vr x0, vl x1, vu, vi 0] [] S V mc ms) : XJ l G bX9_kindOfWord Q d 0 [vr x0, vl x1, vu, vu] [] S V mc ms := by
  refine X_iconst dX9_kindOfWord_0 (by decide) ?_
  refine X_istore_n dX9_kindOfWord_1 (by decide) rfl ?_
  exact h
set_option maxRecDepth 10000 in
theorem vX9_kindOfWord_2 {l : Launch} {G : GT} {Q : Int → Sh → Mem → Prop} {d : Nat} {S : Sh} {V : Mem} {mc ms : Nat} {x0 x1 x3 : Int} (h : (12 ≤ x3 → Q 3 S V) ∧ (¬ (12 ≤ x3) → S.1 x0 = 10 ∧ S.1 (V x0 4) = 22 ∧ 0 ≤ x3 ∧ x3 < S.2.1 (V x0 4) ∧ ((V (V x0 4) x3) ≠ x1 → -2147483648 ≤ x3 + 1 ∧ x3 + 1 ≤ 2147483647 ∧ XJ l G bX9_kindOfWord Q d 2 [vr x0, vl x1, vu, vi (x3 + 1)] [] S V mc ms) ∧ (¬ ((V (V x0 4) x3) ≠ x1) → -2147483648 ≤ 4 + x3 ∧ 4 + x3 ≤ 2147483647 ∧ Q (4 + x3) S V))) : XJ l G bX9_kindOfWord Q d 2 [vr x0, vl x1, vu, vi x3] [] S V mc ms := by
  refine X_iload_n dX9_kindOfWord_2 rfl ?_
  refine X_bipush dX9_kindOfWord_3 (by decide) (by decide) ?_
  refine X_icmp_ge dX9_kindOfWord_5 (tgt := 29) rfl (fun c1 => ?_) (fun c1 => ?_)
  · refine X_iconst dX9_kindOfWord_29 (by decide) ?_
    exact X_ret (z := 3) dX9_kindOfWord_30 rfl (fun hv => vok_h hv) (h.1 c1)
  · refine X_aload_n dX9_kindOfWord_8 rfl ?_
    refine X_getfield (ci := 9) (k := 4) (v := vr (V x0 4)) dX9_kindOfWord_9 rfl (by decide) kf_RX9_26 rfl (h.2 c1).1 ?_
    refine X_iload_n dX9_kindOfWord_12 rfl ?_
    refine X_laload dX9_kindOfWord_13 (h.2 c1).2.1 (h.2 c1).2.2.1 (h.2 c1).2.2.2.1 ?_
    refine X_lload_n dX9_kindOfWord_14 rfl ?_
    refine X_lc_ne dX9_kindOfWord_15 dX9_kindOfWord_16 (tgt := 23) rfl (fun c2 => ?_) (fun c2 => ?_)
    · refine X_iincN dX9_kindOfWord_23 rfl (by decide) rfl (e := x3 + 1) rfl ((h.2 c1).2.2.2.2.1 c2).1 ((h.2 c1).2.2.2.2.1 c2).2.1 ?_
      refine X_goto dX9_kindOfWord_26 (tgt := 2) rfl ?_
      exact ((h.2 c1).2.2.2.2.1 c2).2.2
    · refine X_iconst dX9_kindOfWord_19 (by decide) ?_
      refine X_iload_n dX9_kindOfWord_20 rfl ?_
      refine X_iaddN dX9_kindOfWord_21 ((h.2 c1).2.2.2.2.2 c2).1 ((h.2 c1).2.2.2.2.2 c2).2.1 ?_
      exact X_ret (z := (4 + x3)) dX9_kindOfWord_22 rfl (fun hv => vok_h hv) ((h.2 c1).2.2.2.2.2 c2).2.2
theorem qX9_kindOfWord {l : Launch} {G : GT} {Q : Int → Sh → Mem → Prop} {d : Nat} {S : Sh} {V : Mem} {mc ms : Nat} {x0 x1 : Int} (h : 0 ≤ x0 → inL x1 → XJ l G bX9_kindOfWord Q d 0 [vr x0, vl x1, vu, vu] [] S V mc ms) : Ct l G bX9_kindOfWord Q d mc ms [vr x0, vl x1] S V := Ct.of okX9_kindOfWord.1 trivial (Nat.le_of_ble_eq_true rfl) (fun hv => h (hv _ (List.mem_of_getElem? (i := 0) rfl)) (hv _ (List.mem_of_getElem? (i := 1) rfl)))
set_option maxRecDepth 10000 in
theorem vX9_keep_0 {l : Launch} {G : GT} {Q : Int → Sh → Mem → Prop} {d : Nat} {S : Sh} {V : Mem} {mc ms : Nat} {x0 x1 x2 x3 : Int} (h : S.1 x0 = 10 ∧ S.1 (V x0 0) = 20 ∧ ((S.2.1 (V x0 0)) ≤ (V x0 3) → Q 0 S V) ∧ (¬ ((S.2.1 (V x0 0)) ≤ (V x0 3)) → 0 ≤ (V x0 3) ∧ (V x0 3) < S.2.1 (V x0 0) ∧ S.1 (V x0 1) = 20 ∧ (V x0 3) < S.2.1 (V x0 1) ∧ S.1 (V x0 2) = 22 ∧ (V x0 3) < S.2.1 (V x0 2) ∧ -2147483648 ≤ (V x0 3) + 1 ∧ (V x0 3) + 1 ≤ 2147483647 ∧ Q 0 S (up (up (up (up V (V x0 0) (V x0 3) x1) (V x0 1) (V x0 3) x2) (V x0 2) (V x0 3) x3) x0 3 ((V x0 3) + 1)))) : XJ l G bX9_keep Q d 0 [vr x0, vi x1, vi x2, vl x3, vu] [] S V mc ms := by
  refine X_aload_n dX9_keep_0 rfl ?_
  refine X_getfield (ci := 9) (k := 3) (v := vi (V x0 3)) dX9_keep_1 rfl (by decide) kf_RX9_22 rfl h.1 ?_
  refine X_aload_n dX9_keep_4 rfl ?_
  refine X_getfield (ci := 9) (k := 0) (v := vr (V x0 0)) dX9_keep_5 rfl (by decide) kf_RX9_9 rfl h.1 ?_
  refine X_alen (t := 20) (by decide) dX9_keep_8 h.2.1 ?_
  refine X_icmp_ge dX9_keep_9 (tgt := 52) rfl (fun c1 => ?_) (fun c1 => ?_)
  · exact X_ret (z := 0) dX9_keep_52 rfl (fun _ => trivial) (h.2.2.1 c1)
  · refine X_aload_n dX9_keep_12 rfl ?_
    refine X_getfield (ci := 9) (k := 0) (v := vr (V x0 0)) dX9_keep_13 rfl (by decide) kf_RX9_9 rfl h.1 ?_
    refine X_aload_n dX9_keep_16 rfl ?_
    refine X_getfield (ci := 9) (k := 3) (v := vi (V x0 3)) dX9_keep_17 rfl (by decide) kf_RX9_22 rfl h.1 ?_
    refine X_iload_n dX9_keep_20 rfl ?_
    refine X_iastore dX9_keep_21 h.2.1 (h.2.2.2 c1).1 (h.2.2.2 c1).2.1 ?_
    refine X_aload_n dX9_keep_22 rfl ?_
    refine X_getfield (ci := 9) (k := 1) (v := vr (V x0 1)) dX9_keep_23 rfl (by decide) kf_RX9_15 (congrArg vr (up_ne (Or.inl (tag_ne h.1 h.2.1 (by decide))))) h.1 ?_
    refine X_aload_n dX9_keep_26 rfl ?_
    refine X_getfield (ci := 9) (k := 3) (v := vi (V x0 3)) dX9_keep_27 rfl (by decide) kf_RX9_22 (congrArg vi (up_ne (Or.inl (tag_ne h.1 h.2.1 (by decide))))) h.1 ?_
    refine X_iload_n dX9_keep_30 rfl ?_
    refine X_iastore dX9_keep_31 (h.2.2.2 c1).2.2.1 (h.2.2.2 c1).1 (h.2.2.2 c1).2.2.2.1 ?_
    refine X_aload_n dX9_keep_32 rfl ?_
    refine X_getfield (ci := 9) (k := 2) (v := vr (V x0 2)) dX9_keep_33 rfl (by decide) kf_RX9_18 (congrArg vr ((up_ne (Or.inl (tag_ne h.1 (h.2.2.2 c1).2.2.1 (by decide)))).trans (up_ne (Or.inl (tag_ne h.1 h.2.1 (by decide)))))) h.1 ?_
    refine X_aload_n dX9_keep_36 rfl ?_
    refine X_getfield (ci := 9) (k := 3) (v := vi (V x0 3)) dX9_keep_37 rfl (by decide) kf_RX9_22 (congrArg vi ((up_ne (Or.inl (tag_ne h.1 (h.2.2.2 c1).2.2.1 (by decide)))).trans (up_ne (Or.inl (tag_ne h.1 h.2.1 (by decide)))))) h.1 ?_
    refine X_lload_n dX9_keep_40 rfl ?_
    refine X_lastore dX9_keep_41 (h.2.2.2 c1).2.2.2.2.1 (h.2.2.2 c1).1 (h.2.2.2 c1).2.2.2.2.2.1 ?_
    refine X_aload_n dX9_keep_42 rfl ?_
    refine X_dup dX9_keep_43 (rv_cat _) ?_
    refine X_getfield (ci := 9) (k := 3) (v := vi (V x0 3)) dX9_keep_44 rfl (by decide) kf_RX9_22 (congrArg vi ((up_ne (Or.inl (tag_ne h.1 (h.2.2.2 c1).2.2.2.2.1 (by decide)))).trans ((up_ne (Or.inl (tag_ne h.1 (h.2.2.2 c1).2.2.1 (by decide)))).trans (up_ne (Or.inl (tag_ne h.1 h.2.1 (by decide))))))) h.1 ?_
    refine X_iconst dX9_keep_47 (by decide) ?_
    refine X_iaddN dX9_keep_48 (h.2.2.2 c1).2.2.2.2.2.2.1 (h.2.2.2 c1).2.2.2.2.2.2.2.1 ?_
    refine X_putfield (ci := 9) (k := 3) (z := ((V x0 3) + 1)) dX9_keep_49 rfl (by decide) kf_RX9_22 (Or.inl rfl) (Or.inl rfl) rfl (fun hv => hv) h.1 ?_
    exact X_ret (z := 0) dX9_keep_52 rfl (fun _ => trivial) (h.2.2.2 c1).2.2.2.2.2.2.2.2
theorem qX9_keep {l : Launch} {G : GT} {Q : Int → Sh → Mem → Prop} {d : Nat} {S : Sh} {V : Mem} {mc ms : Nat} {x0 x1 x2 x3 : Int} (h : 0 ≤ x0 → inI x1 → inI x2 → inL x3 → XJ l G bX9_keep Q d 0 [vr x0, vi x1, vi x2, vl x3, vu] [] S V mc ms) : Ct l G bX9_keep Q d mc ms [vr x0, vi x1, vi x2, vl x3] S V := Ct.of okX9_keep.1 trivial (Nat.le_of_ble_eq_true rfl) (fun hv => h (hv _ (List.mem_of_getElem? (i := 0) rfl)) (hv _ (List.mem_of_getElem? (i := 1) rfl)) (hv _ (List.mem_of_getElem? (i := 2) rfl)) (hv _ (List.mem_of_getElem? (i := 3) rfl)))
