def B_book_0 (rc : MP) (cl : MC) (Q : Int → Mem → Prop) (d : Nat) (M : Mem) : Prop := ((M 0 8) ≠ 10 → rc n_book_22 [0] (up M 0 9 (M 0 8))) ∧ (¬ ((M 0 8) ≠ 10) → Q (-2) M)
set_option maxRecDepth 10000 in
theorem s_book_0 {l : Launch} {G : GT} {m : Int} {a : Int → Int} {d mc ms : Nat} {S : Sh} {Q : Int → Mem → Prop} {rc : MP} {cl : MC} {V0 V M : Mem} (hrc : RCok l G m a S V0 Q d mc ms rc) (hcl : CLok l G m a S d cl) (mr : MR m a S V M) (mf : MF m a V0 V) (hB : B_book_0 rc cl Q d  M) : XJ l G bX12_book (Qm m a S V0 Q) (d + 1) 0 [vr m, vu] [] S V mc ms := by
  unfold B_book_0 at hB
  refine X_aload_n dX12_book_0 rfl ?_
  refine X_getfield (ci := 12) (k := 8) (v := vi (M 0 8)) dX12_book_1 rfl (by decide) kf_RX12_392 (congrArg vi (MR.in_ mr (k := 8) (by decide) rfl)) mr.1 ?_
  refine X_bipush dX12_book_4 (by decide) (by decide) ?_
  refine X_icmp_ne dX12_book_6 (tgt := 12) rfl (fun c1 => ?_) (fun c1 => ?_)
  · refine X_aload_n dX12_book_12 rfl ?_
    refine X_aload_n dX12_book_13 rfl ?_
    refine X_getfield (ci := 12) (k := 8) (v := vi (M 0 8)) dX12_book_14 rfl (by decide) kf_RX12_392 (congrArg vi (MR.in_ mr (k := 8) (by decide) rfl)) mr.1 ?_
    refine X_putfield (ci := 12) (k := 9) (z := (M 0 8)) dX12_book_17 rfl (by decide) kf_RX12_263 (Or.inl rfl) (Or.inl rfl) rfl (fun hv => hv) mr.1 ?_
    refine X_iconst dX12_book_20 (by decide) ?_
    refine X_istore_n dX12_book_21 (by decide) rfl ?_
    exact hrc n_book_22 [0] _ _ (hB.1 c1) (MR.putI mr (k := 9) (z := M 0 8) (by decide)) (MF.putI mf (k := 9) (z := M 0 8))
  · refine X_bipush dX12_book_9 (by decide) (by decide) ?_
    exact X_ret (z := (-2)) dX12_book_11 rfl (fun hv => vok_h hv) ⟨rfl, _, (hB.2 c1), mr, mf⟩
def B_book_22 (rc : MP) (cl : MC) (Q : Int → Mem → Prop) (d : Nat) (x1 : Int) (M : Mem) : Prop := ((M 0 2) ≤ x1 → cl n_readBook_0 [] M (fun z2 M2 => ((M2 0 46) ≤ 0 → cl n_asleep_0 [M2 0 9] (up M2 0 2 0) (fun z5 M5 => -2147483648 ≤ (M5 0 8) + 1 ∧ (M5 0 8) + 1 ≤ 2147483647 ∧ Q (M5 0 9) (up M5 0 8 ((M5 0 8) + 1)))) ∧ (¬ ((M2 0 46) ≤ 0) → -2147483648 ≤ (-10) - (M2 0 47) ∧ (-10) - (M2 0 47) ≤ 2147483647 ∧ Q ((-10) - (M2 0 47)) (up (up M2 0 2 0) 0 40 (M 0 40))))) ∧ (¬ ((M 0 2) ≤ x1) → -2147483648 ≤ 3000 * (M 0 9) ∧ 3000 * (M 0 9) ≤ 2147483647 ∧ -2147483648 ≤ (3000 * (M 0 9)) + x1 ∧ (3000 * (M 0 9)) + x1 ≤ 2147483647 ∧ 0 ≤ x1 ∧ x1 < 3000 ∧ 0 ≤ ((3000 * (M 0 9)) + x1) ∧ ((3000 * (M 0 9)) + x1) < 30000 ∧ -2147483648 ≤ x1 + 1 ∧ x1 + 1 ≤ 2147483647 ∧ rc n_book_22 [x1 + 1] (up M 7 ((3000 * (M 0 9)) + x1) (wb (M 1 x1))))
set_option maxRecDepth 10000 in
theorem s_book_22 {l : Launch} {G : GT} {m : Int} {a : Int → Int} {d mc ms : Nat} {S : Sh} {Q : Int → Mem → Prop} {rc : MP} {cl : MC} {V0 V M : Mem} {x1 : Int} (hrc : RCok l G m a S V0 Q d mc ms rc) (hcl : CLok l G m a S d cl) (mr : MR m a S V M) (mf : MF m a V0 V) (hB : B_book_22 rc cl Q d x1 M) : XJ l G bX12_book (Qm m a S V0 Q) (d + 1) 22 [vr m, vi x1] [] S V mc ms := by
  unfold B_book_22 at hB
  refine X_iload_n dX12_book_22 rfl ?_
  refine X_aload_n dX12_book_23 rfl ?_
  refine X_getfield (ci := 12) (k := 2) (v := vi (M 0 2)) dX12_book_24 rfl (by decide) kf_RX12_192 (congrArg vi (MR.in_ mr (k := 2) (by decide) rfl)) mr.1 ?_
  refine X_icmp_ge dX12_book_27 (tgt := 57) rfl (fun c1 => ?_) (fun c1 => ?_)
  · refine X_aload_n dX12_book_57 rfl ?_
    refine X_getfield (ci := 12) (k := 40) (v := vi (M 0 40)) dX12_book_58 rfl (by decide) kf_RX12_266 (congrArg vi (MR.in_ mr (k := 40) (by decide) rfl)) mr.1 ?_
    refine X_istore_n dX12_book_61 (by decide) rfl ?_
    refine X_aload_n dX12_book_62 rfl ?_
    refine X_invV (ci := 12) (as := []) (st := []) okX12_readBook dX12_book_63 km_RX12_395 rfl rfl (Nat.le_of_ble_eq_true rfl) rfl rfl mr.1 (CT.of d 0 0 (hcl n_readBook_0 rfl [] _ _ _ (hB.1 c1) mr) (Nat.le_refl _) (Nat.zero_le _) (Nat.zero_le _) (fun z2 S2 V2 hq2 => ?_))
    obtain ⟨rfl, M2, hc3, mr2, hf2⟩ := hq2
    have mf2 := MF.trans mf hf2
    refine X_aload_n dX12_book_66 rfl ?_
    refine X_iconst dX12_book_67 (by decide) ?_
    refine X_putfield (ci := 12) (k := 2) (z := 0) dX12_book_68 rfl (by decide) kf_RX12_192 (Or.inl rfl) (Or.inl rfl) rfl (fun hv => hv) mr2.1 ?_
    refine X_aload_n dX12_book_71 rfl ?_
    refine X_getfield (ci := 12) (k := 46) (v := vi (M2 0 46)) dX12_book_72 rfl (by decide) kf_RX12_275 (congrArg vi (MR.in_ (MR.putI mr2 (k := 2) (z := 0) (by decide)) (k := 46) (by decide) (up_ne (Or.inr (by decide))))) (MR.putI mr2 (k := 2) (z := 0) (by decide)).1 ?_
    refine X_if_le dX12_book_75 (tgt := 91) rfl (fun c4 => ?_) (fun c4 => ?_)
    · refine X_aload_n dX12_book_91 rfl ?_
      refine X_aload_n dX12_book_92 rfl ?_
      refine X_getfield (ci := 12) (k := 9) (v := vi (M2 0 9)) dX12_book_93 rfl (by decide) kf_RX12_263 (congrArg vi (MR.in_ (MR.putI mr2 (k := 2) (z := 0) (by decide)) (k := 9) (by decide) (up_ne (Or.inr (by decide))))) (MR.putI mr2 (k := 2) (z := 0) (by decide)).1 ?_
      refine X_invV (ci := 12) (as := [vi (M2 0 9)]) (st := []) okX12_asleep dX12_book_96 km_RX12_398 rfl rfl (Nat.le_of_ble_eq_true rfl) rfl rfl (MR.putI mr2 (k := 2) (z := 0) (by decide)).1 (CT.of d 0 0 (hcl n_asleep_0 rfl [M2 0 9] _ _ _ (hc3.1 c4) (MR.putI mr2 (k := 2) (z := 0) (by decide))) (Nat.le_refl _) (Nat.zero_le _) (Nat.zero_le _) (fun z5 S5 V5 hq5 => ?_))
      obtain ⟨rfl, M5, hc6, mr5, hf5⟩ := hq5
      have mf5 := MF.trans (MF.putI mf2 (k := 2) (z := 0)) hf5
      refine X_aload_n dX12_book_99 rfl ?_
      refine X_dup dX12_book_100 (rv_cat _) ?_
      refine X_getfield (ci := 12) (k := 8) (v := vi (M5 0 8)) dX12_book_101 rfl (by decide) kf_RX12_392 (congrArg vi (MR.in_ mr5 (k := 8) (by decide) rfl)) mr5.1 ?_
      refine X_iconst dX12_book_104 (by decide) ?_
      refine X_iaddN dX12_book_105 hc6.1 hc6.2.1 ?_
      refine X_putfield (ci := 12) (k := 8) (z := ((M5 0 8) + 1)) dX12_book_106 rfl (by decide) kf_RX12_392 (Or.inl rfl) (Or.inl rfl) rfl (fun hv => hv) mr5.1 ?_
      refine X_aload_n dX12_book_109 rfl ?_
      refine X_getfield (ci := 12) (k := 9) (v := vi (M5 0 9)) dX12_book_110 rfl (by decide) kf_RX12_263 (congrArg vi (MR.in_ (MR.putI mr5 (k := 8) (z := (M5 0 8) + 1) (by decide)) (k := 9) (by decide) (up_ne (Or.inr (by decide))))) (MR.putI mr5 (k := 8) (z := (M5 0 8) + 1) (by decide)).1 ?_
      exact X_ret (z := (M5 0 9)) dX12_book_113 rfl (fun hv => vok_h hv) ⟨rfl, _, hc6.2.2, (MR.putI mr5 (k := 8) (z := (M5 0 8) + 1) (by decide)), (MF.putI mf5 (k := 8) (z := (M5 0 8) + 1))⟩
    · refine X_aload_n dX12_book_78 rfl ?_
      refine X_iload_n dX12_book_79 rfl ?_
      refine X_putfield (ci := 12) (k := 40) (z := (M 0 40)) dX12_book_80 rfl (by decide) kf_RX12_266 (Or.inl rfl) (Or.inl rfl) rfl (fun hv => hv) (MR.putI mr2 (k := 2) (z := 0) (by decide)).1 ?_
      refine X_bipush dX12_book_83 (by decide) (by decide) ?_
      refine X_aload_n dX12_book_85 rfl ?_
      refine X_getfield (ci := 12) (k := 47) (v := vi (M2 0 47)) dX12_book_86 rfl (by decide) kf_RX12_278 (congrArg vi (MR.in_ (MR.putI (MR.putI mr2 (k := 2) (z := 0) (by decide)) (k := 40) (z := M 0 40) (by decide)) (k := 47) (by decide) ((up_ne (Or.inr (by decide))).trans (up_ne (Or.inr (by decide)))))) (MR.putI (MR.putI mr2 (k := 2) (z := 0) (by decide)) (k := 40) (z := M 0 40) (by decide)).1 ?_
      refine X_isubN dX12_book_89 (hc3.2 c4).1 (hc3.2 c4).2.1 ?_
      exact X_ret (z := ((-10) - (M2 0 47))) dX12_book_90 rfl (fun hv => vok_h hv) ⟨rfl, _, (hc3.2 c4).2.2, (MR.putI (MR.putI mr2 (k := 2) (z := 0) (by decide)) (k := 40) (z := M 0 40) (by decide)), (MF.putI (MF.putI mf2 (k := 2) (z := 0)) (k := 40) (z := M 0 40))⟩
  · refine X_aload_n dX12_book_30 rfl ?_
    refine X_getfield (ci := 12) (k := 7) (v := vr (a 7)) dX12_book_31 rfl (by decide) kf_RX12_13 (congrArg vr (MR.ar mr (k := 7) (by decide)).1) mr.1 ?_
    refine X_sipush dX12_book_34 (by decide) (by decide) ?_
    refine X_aload_n dX12_book_37 rfl ?_
    refine X_getfield (ci := 12) (k := 9) (v := vi (M 0 9)) dX12_book_38 rfl (by decide) kf_RX12_263 (congrArg vi (MR.in_ mr (k := 9) (by decide) rfl)) mr.1 ?_
    refine X_imulN dX12_book_41 (hB.2 c1).1 (hB.2 c1).2.1 ?_
    refine X_iload_n dX12_book_42 rfl ?_
    refine X_iaddN dX12_book_43 (hB.2 c1).2.2.1 (hB.2 c1).2.2.2.1 ?_
    refine X_aload_n dX12_book_44 rfl ?_
    refine X_getfield (ci := 12) (k := 1) (v := vr (a 1)) dX12_book_45 rfl (by decide) kf_RX12_7 (congrArg vr (MR.ar mr (k := 1) (by decide)).1) mr.1 ?_
    refine X_iload_n dX12_book_48 rfl ?_
    refine X_baload dX12_book_49 ((MR.ar mr (k := 1) (by decide)).2.1.trans (by decide)) (hB.2 c1).2.2.2.2.1 (lt_eq (hB.2 c1).2.2.2.2.2.1 (MR.ln mr (k := 1) (by decide) (by decide))) ?_
    refine X_top (v := vi (M 1 x1)) (congrArg vi (MR.el mr (k := 1) (by decide) rfl)) ?_
    refine X_bastore dX12_book_50 ((MR.ar mr (k := 7) (by decide)).2.1.trans (by decide)) (hB.2 c1).2.2.2.2.2.2.1 (lt_eq (hB.2 c1).2.2.2.2.2.2.2.1 (MR.ln mr (k := 7) (by decide) (by decide))) ?_
    refine X_iincN dX12_book_51 rfl (by decide) rfl (e := x1 + 1) rfl (hB.2 c1).2.2.2.2.2.2.2.2.1 (hB.2 c1).2.2.2.2.2.2.2.2.2.1 ?_
    refine X_goto dX12_book_54 (tgt := 22) rfl ?_
    exact hrc n_book_22 [x1 + 1] _ _ (hB.2 c1).2.2.2.2.2.2.2.2.2.2 (MR.putA mr (k := 7) (j := (3000 * (M 0 9)) + x1) (z := wb (M 1 x1)) (by decide)) (MF.putA mf (k := 7) (j := (3000 * (M 0 9)) + x1) (z := wb (M 1 x1)) (by decide))
def B_wrong_0 (rc : MP) (cl : MC) (Q : Int → Mem → Prop) (d : Nat) (M : Mem) : Prop := Q (M 0 46) M
set_option maxRecDepth 10000 in
theorem s_wrong_0 {l : Launch} {G : GT} {m : Int} {a : Int → Int} {d mc ms : Nat} {S : Sh} {Q : Int → Mem → Prop} {rc : MP} {cl : MC} {V0 V M : Mem} (hrc : RCok l G m a S V0 Q d mc ms rc) (hcl : CLok l G m a S d cl) (mr : MR m a S V M) (mf : MF m a V0 V) (hB : B_wrong_0 rc cl Q d  M) : XJ l G bX12_wrong (Qm m a S V0 Q) (d + 1) 0 [vr m] [] S V mc ms := by
  unfold B_wrong_0 at hB
  refine X_aload_n dX12_wrong_0 rfl ?_
  refine X_getfield (ci := 12) (k := 46) (v := vi (M 0 46)) dX12_wrong_1 rfl (by decide) kf_RX12_275 (congrArg vi (MR.in_ mr (k := 46) (by decide) rfl)) mr.1 ?_
  exact X_ret (z := (M 0 46)) dX12_wrong_4 rfl (fun hv => vok_h hv) ⟨rfl, _, hB, mr, mf⟩
def B_asleep_0 (rc : MP) (cl : MC) (Q : Int → Mem → Prop) (d : Nat) (x1 : Int) (M : Mem) : Prop := rc n_asleep_2 [x1, 0] M
set_option maxRecDepth 10000 in
theorem s_asleep_0 {l : Launch} {G : GT} {m : Int} {a : Int → Int} {d mc ms : Nat} {S : Sh} {Q : Int → Mem → Prop} {rc : MP} {cl : MC} {V0 V M : Mem} {x1 : Int} (hrc : RCok l G m a S V0 Q d mc ms rc) (hcl : CLok l G m a S d cl) (mr : MR m a S V M) (mf : MF m a V0 V) (hB : B_asleep_0 rc cl Q d x1 M) : XJ l G bX12_asleep (Qm m a S V0 Q) (d + 1) 0 [vr m, vi x1, vu, vu] [] S V mc ms := by
  unfold B_asleep_0 at hB
  refine X_iconst dX12_asleep_0 (by decide) ?_
  refine X_istore_n dX12_asleep_1 (by decide) rfl ?_
  exact hrc n_asleep_2 [x1, 0] _ _ hB mr mf
def B_asleep_2 (rc : MP) (cl : MC) (Q : Int → Mem → Prop) (d : Nat) (x1 x2 : Int) (M : Mem) : Prop := (160 ≤ x2 → -2147483648 ≤ 12 * x1 ∧ 12 * x1 ≤ 2147483647 ∧ rc n_asleep_33 [x1, 12 * x1] M) ∧ (¬ (160 ≤ x2) → -2147483648 ≤ 160 * x1 ∧ 160 * x1 ≤ 2147483647 ∧ -2147483648 ≤ (160 * x1) + x2 ∧ (160 * x1) + x2 ≤ 2147483647 ∧ 0 ≤ ((160 * x1) + x2) ∧ ((160 * x1) + x2) < 1600 ∧ -2147483648 ≤ x2 + 1 ∧ x2 + 1 ≤ 2147483647 ∧ rc n_asleep_2 [x1, x2 + 1] (up M 52 ((160 * x1) + x2) 0))
set_option maxRecDepth 10000 in
theorem s_asleep_2 {l : Launch} {G : GT} {m : Int} {a : Int → Int} {d mc ms : Nat} {S : Sh} {Q : Int → Mem → Prop} {rc : MP} {cl : MC} {V0 V M : Mem} {x1 x2 : Int} (hrc : RCok l G m a S V0 Q d mc ms rc) (hcl : CLok l G m a S d cl) (mr : MR m a S V M) (mf : MF m a V0 V) (hB : B_asleep_2 rc cl Q d x1 x2 M) : XJ l G bX12_asleep (Qm m a S V0 Q) (d + 1) 2 [vr m, vi x1, vi x2, vu] [] S V mc ms := by
  unfold B_asleep_2 at hB
  refine X_iload_n dX12_asleep_2 rfl ?_
  refine X_sipush dX12_asleep_3 (by decide) (by decide) ?_
  refine X_icmp_ge dX12_asleep_6 (tgt := 28) rfl (fun c1 => ?_) (fun c1 => ?_)
  · refine X_bipush dX12_asleep_28 (by decide) (by decide) ?_
    refine X_iload_n dX12_asleep_30 rfl ?_
    refine X_imulN dX12_asleep_31 (hB.1 c1).1 (hB.1 c1).2.1 ?_
    refine X_istore_n dX12_asleep_32 (by decide) rfl ?_
    exact hrc n_asleep_33 [x1, 12 * x1] _ _ (hB.1 c1).2.2 mr mf
  · refine X_aload_n dX12_asleep_9 rfl ?_
    refine X_getfield (ci := 12) (k := 52) (v := vr (a 52)) dX12_asleep_10 rfl (by decide) kf_RX12_116 (congrArg vr (MR.ar mr (k := 52) (by decide)).1) mr.1 ?_
    refine X_sipush dX12_asleep_13 (by decide) (by decide) ?_
    refine X_iload_n dX12_asleep_16 rfl ?_
    refine X_imulN dX12_asleep_17 (hB.2 c1).1 (hB.2 c1).2.1 ?_
    refine X_iload_n dX12_asleep_18 rfl ?_
    refine X_iaddN dX12_asleep_19 (hB.2 c1).2.2.1 (hB.2 c1).2.2.2.1 ?_
    refine X_iconst dX12_asleep_20 (by decide) ?_
    refine X_iastore dX12_asleep_21 ((MR.ar mr (k := 52) (by decide)).2.1.trans (by decide)) (hB.2 c1).2.2.2.2.1 (lt_eq (hB.2 c1).2.2.2.2.2.1 (MR.ln mr (k := 52) (by decide) (by decide))) ?_
    refine X_iincN dX12_asleep_22 rfl (by decide) rfl (e := x2 + 1) rfl (hB.2 c1).2.2.2.2.2.2.1 (hB.2 c1).2.2.2.2.2.2.2.1 ?_
    refine X_goto dX12_asleep_25 (tgt := 2) rfl ?_
    exact hrc n_asleep_2 [x1, x2 + 1] _ _ (hB.2 c1).2.2.2.2.2.2.2.2 (MR.putA mr (k := 52) (j := (160 * x1) + x2) (z := 0) (by decide)) (MF.putA mf (k := 52) (j := (160 * x1) + x2) (z := 0) (by decide))
def B_asleep_33 (rc : MP) (cl : MC) (Q : Int → Mem → Prop) (d : Nat) (x1 x2 : Int) (M : Mem) : Prop := -2147483648 ≤ 12 * x1 ∧ 12 * x1 ≤ 2147483647 ∧ -2147483648 ≤ (12 * x1) + 12 ∧ (12 * x1) + 12 ≤ 2147483647 ∧ (((12 * x1) + 12) ≤ x2 → 0 ≤ x1 ∧ x1 < 10 ∧ Q 0 (up (up M 59 x1 0) 62 x1 0)) ∧ (¬ (((12 * x1) + 12) ≤ x2) → 0 ≤ x2 ∧ x2 < 120 ∧ rc n_asleep_53 [x1, x2, 0] (up M 53 x2 0))
set_option maxRecDepth 10000 in
theorem s_asleep_33 {l : Launch} {G : GT} {m : Int} {a : Int → Int} {d mc ms : Nat} {S : Sh} {Q : Int → Mem → Prop} {rc : MP} {cl : MC} {V0 V M : Mem} {x1 x2 : Int} (hrc : RCok l G m a S V0 Q d mc ms rc) (hcl : CLok l G m a S d cl) (mr : MR m a S V M) (mf : MF m a V0 V) (hB : B_asleep_33 rc cl Q d x1 x2 M) : XJ l G bX12_asleep (Qm m a S V0 Q) (d + 1) 33 [vr m, vi x1, vi x2, vu] [] S V mc ms := by
  unfold B_asleep_33 at hB
  refine X_iload_n dX12_asleep_33 rfl ?_
  refine X_bipush dX12_asleep_34 (by decide) (by decide) ?_
  refine X_iload_n dX12_asleep_36 rfl ?_
  refine X_imulN dX12_asleep_37 hB.1 hB.2.1 ?_
  refine X_bipush dX12_asleep_38 (by decide) (by decide) ?_
  refine X_iaddN dX12_asleep_40 hB.2.2.1 hB.2.2.2.1 ?_
  refine X_icmp_ge dX12_asleep_41 (tgt := 81) rfl (fun c1 => ?_) (fun c1 => ?_)
  · refine X_aload_n dX12_asleep_81 rfl ?_
    refine X_getfield (ci := 12) (k := 59) (v := vr (a 59)) dX12_asleep_82 rfl (by decide) kf_RX12_137 (congrArg vr (MR.ar mr (k := 59) (by decide)).1) mr.1 ?_
    refine X_iload_n dX12_asleep_85 rfl ?_
    refine X_iconst dX12_asleep_86 (by decide) ?_
    refine X_iastore dX12_asleep_87 ((MR.ar mr (k := 59) (by decide)).2.1.trans (by decide)) (hB.2.2.2.2.1 c1).1 (lt_eq (hB.2.2.2.2.1 c1).2.1 (MR.ln mr (k := 59) (by decide) (by decide))) ?_
    refine X_aload_n dX12_asleep_88 rfl ?_
    refine X_getfield (ci := 12) (k := 62) (v := vr (a 62)) dX12_asleep_89 rfl (by decide) kf_RX12_146 (congrArg vr (MR.ar (MR.putA mr (k := 59) (j := x1) (z := 0) (by decide)) (k := 62) (by decide)).1) (MR.putA mr (k := 59) (j := x1) (z := 0) (by decide)).1 ?_
    refine X_iload_n dX12_asleep_92 rfl ?_
    refine X_iconst dX12_asleep_93 (by decide) ?_
    refine X_iastore dX12_asleep_94 ((MR.ar (MR.putA mr (k := 59) (j := x1) (z := 0) (by decide)) (k := 62) (by decide)).2.1.trans (by decide)) (hB.2.2.2.2.1 c1).1 (lt_eq (hB.2.2.2.2.1 c1).2.1 (MR.ln (MR.putA mr (k := 59) (j := x1) (z := 0) (by decide)) (k := 62) (by decide) (by decide))) ?_
    exact X_ret (z := 0) dX12_asleep_95 rfl (fun _ => trivial) ⟨rfl, _, (hB.2.2.2.2.1 c1).2.2, (MR.putA (MR.putA mr (k := 59) (j := x1) (z := 0) (by decide)) (k := 62) (j := x1) (z := 0) (by decide)), (MF.putA (MF.putA mf (k := 59) (j := x1) (z := 0) (by decide)) (k := 62) (j := x1) (z := 0) (by decide))⟩
  · refine X_aload_n dX12_asleep_44 rfl ?_
    refine X_getfield (ci := 12) (k := 53) (v := vr (a 53)) dX12_asleep_45 rfl (by decide) kf_RX12_119 (congrArg vr (MR.ar mr (k := 53) (by decide)).1) mr.1 ?_
    refine X_iload_n dX12_asleep_48 rfl ?_
    refine X_iconst dX12_asleep_49 (by decide) ?_
    refine X_iastore dX12_asleep_50 ((MR.ar mr (k := 53) (by decide)).2.1.trans (by decide)) (hB.2.2.2.2.2 c1).1 (lt_eq (hB.2.2.2.2.2 c1).2.1 (MR.ln mr (k := 53) (by decide) (by decide))) ?_
    refine X_iconst dX12_asleep_51 (by decide) ?_
    refine X_istore_n dX12_asleep_52 (by decide) rfl ?_
    exact hrc n_asleep_53 [x1, x2, 0] _ _ (hB.2.2.2.2.2 c1).2.2 (MR.putA mr (k := 53) (j := x2) (z := 0) (by decide)) (MF.putA mf (k := 53) (j := x2) (z := 0) (by decide))
def B_asleep_53 (rc : MP) (cl : MC) (Q : Int → Mem → Prop) (d : Nat) (x1 x2 x3 : Int) (M : Mem) : Prop := (4 ≤ x3 → -2147483648 ≤ x2 + 1 ∧ x2 + 1 ≤ 2147483647 ∧ rc n_asleep_33 [x1, x2 + 1] M) ∧ (¬ (4 ≤ x3) → -2147483648 ≤ 4 * x2 ∧ 4 * x2 ≤ 2147483647 ∧ -2147483648 ≤ (4 * x2) + x3 ∧ (4 * x2) + x3 ≤ 2147483647 ∧ 0 ≤ ((4 * x2) + x3) ∧ ((4 * x2) + x3) < 480 ∧ -2147483648 ≤ x3 + 1 ∧ x3 + 1 ≤ 2147483647 ∧ rc n_asleep_53 [x1, x2, x3 + 1] (up M 55 ((4 * x2) + x3) 0))
set_option maxRecDepth 10000 in
theorem s_asleep_53 {l : Launch} {G : GT} {m : Int} {a : Int → Int} {d mc ms : Nat} {S : Sh} {Q : Int → Mem → Prop} {rc : MP} {cl : MC} {V0 V M : Mem} {x1 x2 x3 : Int} (hrc : RCok l G m a S V0 Q d mc ms rc) (hcl : CLok l G m a S d cl) (mr : MR m a S V M) (mf : MF m a V0 V) (hB : B_asleep_53 rc cl Q d x1 x2 x3 M) : XJ l G bX12_asleep (Qm m a S V0 Q) (d + 1) 53 [vr m, vi x1, vi x2, vi x3] [] S V mc ms := by
  unfold B_asleep_53 at hB
  refine X_iload_n dX12_asleep_53 rfl ?_
  refine X_iconst dX12_asleep_54 (by decide) ?_
  refine X_icmp_ge dX12_asleep_55 (tgt := 75) rfl (fun c1 => ?_) (fun c1 => ?_)
  · refine X_iincN dX12_asleep_75 rfl (by decide) rfl (e := x2 + 1) rfl (hB.1 c1).1 (hB.1 c1).2.1 ?_
    refine X_goto dX12_asleep_78 (tgt := 33) rfl ?_
    exact X_weak [false, false, false, true] (hrc n_asleep_33 [x1, x2 + 1] _ _ (hB.1 c1).2.2 mr mf)
  · refine X_aload_n dX12_asleep_58 rfl ?_
    refine X_getfield (ci := 12) (k := 55) (v := vr (a 55)) dX12_asleep_59 rfl (by decide) kf_RX12_125 (congrArg vr (MR.ar mr (k := 55) (by decide)).1) mr.1 ?_
    refine X_iconst dX12_asleep_62 (by decide) ?_
    refine X_iload_n dX12_asleep_63 rfl ?_
    refine X_imulN dX12_asleep_64 (hB.2 c1).1 (hB.2 c1).2.1 ?_
    refine X_iload_n dX12_asleep_65 rfl ?_
    refine X_iaddN dX12_asleep_66 (hB.2 c1).2.2.1 (hB.2 c1).2.2.2.1 ?_
    refine X_iconst dX12_asleep_67 (by decide) ?_
    refine X_iastore dX12_asleep_68 ((MR.ar mr (k := 55) (by decide)).2.1.trans (by decide)) (hB.2 c1).2.2.2.2.1 (lt_eq (hB.2 c1).2.2.2.2.2.1 (MR.ln mr (k := 55) (by decide) (by decide))) ?_
    refine X_iincN dX12_asleep_69 rfl (by decide) rfl (e := x3 + 1) rfl (hB.2 c1).2.2.2.2.2.2.1 (hB.2 c1).2.2.2.2.2.2.2.1 ?_
    refine X_goto dX12_asleep_72 (tgt := 53) rfl ?_
    exact hrc n_asleep_53 [x1, x2, x3 + 1] _ _ (hB.2 c1).2.2.2.2.2.2.2.2 (MR.putA mr (k := 55) (j := (4 * x2) + x3) (z := 0) (by decide)) (MF.putA mf (k := 55) (j := (4 * x2) + x3) (z := 0) (by decide))
def B_failing_0 (rc : MP) (cl : MC) (Q : Int → Mem → Prop) (d : Nat) (x1 x2 : Int) (M : Mem) : Prop := (0 : Int) ≤ 0 ∧ (0 : Int) < 40 ∧ Q 0 (up (up (up (up M 0 65 1) 0 68 1) 66 0 x1) 67 0 x2)
set_option maxRecDepth 10000 in
theorem s_failing_0 {l : Launch} {G : GT} {m : Int} {a : Int → Int} {d mc ms : Nat} {S : Sh} {Q : Int → Mem → Prop} {rc : MP} {cl : MC} {V0 V M : Mem} {x1 x2 : Int} (hrc : RCok l G m a S V0 Q d mc ms rc) (hcl : CLok l G m a S d cl) (mr : MR m a S V M) (mf : MF m a V0 V) (hB : B_failing_0 rc cl Q d x1 x2 M) : XJ l G bX12_failing (Qm m a S V0 Q) (d + 1) 0 [vr m, vi x1, vi x2] [] S V mc ms := by
  unfold B_failing_0 at hB
  refine X_aload_n dX12_failing_0 rfl ?_
  refine X_iconst dX12_failing_1 (by decide) ?_
  refine X_putfield (ci := 12) (k := 65) (z := 1) dX12_failing_2 rfl (by decide) kf_RX12_401 (Or.inr (Or.inr (Or.inl rfl))) (Or.inl rfl) rfl (fun _ => Or.inr rfl) mr.1 ?_
  refine X_aload_n dX12_failing_5 rfl ?_
  refine X_iconst dX12_failing_6 (by decide) ?_
  refine X_putfield (ci := 12) (k := 68) (z := 1) dX12_failing_7 rfl (by decide) kf_RX12_404 (Or.inl rfl) (Or.inl rfl) rfl (fun hv => hv) (MR.putI mr (k := 65) (z := 1) (by decide)).1 ?_
  refine X_aload_n dX12_failing_10 rfl ?_
  refine X_getfield (ci := 12) (k := 66) (v := vr (a 66)) dX12_failing_11 rfl (by decide) kf_RX12_152 (congrArg vr (MR.ar (MR.putI (MR.putI mr (k := 65) (z := 1) (by decide)) (k := 68) (z := 1) (by decide)) (k := 66) (by decide)).1) (MR.putI (MR.putI mr (k := 65) (z := 1) (by decide)) (k := 68) (z := 1) (by decide)).1 ?_
  refine X_iconst dX12_failing_14 (by decide) ?_
  refine X_iload_n dX12_failing_15 rfl ?_
  refine X_iastore dX12_failing_16 ((MR.ar (MR.putI (MR.putI mr (k := 65) (z := 1) (by decide)) (k := 68) (z := 1) (by decide)) (k := 66) (by decide)).2.1.trans (by decide)) hB.1 (lt_eq hB.2.1 (MR.ln (MR.putI (MR.putI mr (k := 65) (z := 1) (by decide)) (k := 68) (z := 1) (by decide)) (k := 66) (by decide) (by decide))) ?_
  refine X_aload_n dX12_failing_17 rfl ?_
  refine X_getfield (ci := 12) (k := 67) (v := vr (a 67)) dX12_failing_18 rfl (by decide) kf_RX12_155 (congrArg vr (MR.ar (MR.putA (MR.putI (MR.putI mr (k := 65) (z := 1) (by decide)) (k := 68) (z := 1) (by decide)) (k := 66) (j := 0) (z := x1) (by decide)) (k := 67) (by decide)).1) (MR.putA (MR.putI (MR.putI mr (k := 65) (z := 1) (by decide)) (k := 68) (z := 1) (by decide)) (k := 66) (j := 0) (z := x1) (by decide)).1 ?_
  refine X_iconst dX12_failing_21 (by decide) ?_
  refine X_iload_n dX12_failing_22 rfl ?_
  refine X_iastore dX12_failing_23 ((MR.ar (MR.putA (MR.putI (MR.putI mr (k := 65) (z := 1) (by decide)) (k := 68) (z := 1) (by decide)) (k := 66) (j := 0) (z := x1) (by decide)) (k := 67) (by decide)).2.1.trans (by decide)) hB.1 (lt_eq hB.2.1 (MR.ln (MR.putA (MR.putI (MR.putI mr (k := 65) (z := 1) (by decide)) (k := 68) (z := 1) (by decide)) (k := 66) (j := 0) (z := x1) (by decide)) (k := 67) (by decide) (by decide))) ?_
  refine X_iconst dX12_failing_24 (by decide) ?_
  exact X_ret (z := 0) dX12_failing_25 rfl (fun hv => vok_h hv) ⟨rfl, _, hB.2.2, (MR.putA (MR.putA (MR.putI (MR.putI mr (k := 65) (z := 1) (by decide)) (k := 68) (z := 1) (by decide)) (k := 66) (j := 0) (z := x1) (by decide)) (k := 67) (j := 0) (z := x2) (by decide)), (MF.putA (MF.putA (MF.putI (MF.putI mf (k := 65) (z := 1)) (k := 68) (z := 1)) (k := 66) (j := 0) (z := x1) (by decide)) (k := 67) (j := 0) (z := x2) (by decide))⟩
def B_use_0 (rc : MP) (cl : MC) (Q : Int → Mem → Prop) (d : Nat) (x1 : Int) (M : Mem) : Prop := -2147483648 ≤ 160 * (M 0 9) ∧ 160 * (M 0 9) ≤ 2147483647 ∧ -2147483648 ≤ (160 * (M 0 9)) + x1 ∧ (160 * (M 0 9)) + x1 ≤ 2147483647 ∧ 0 ≤ ((160 * (M 0 9)) + x1) ∧ ((160 * (M 0 9)) + x1) < 1600 ∧ ((M 52 ((160 * (M 0 9)) + x1)) ≠ 2 → ((M 52 ((160 * (M 0 9)) + x1)) ≠ 0 → Q 0 M) ∧ (¬ ((M 52 ((160 * (M 0 9)) + x1)) ≠ 0) → cl n_starts_0 [x1] M (fun z3 M3 => Q 0 M3))) ∧ (¬ ((M 52 ((160 * (M 0 9)) + x1)) ≠ 2) → cl n_failing_0 [2, x1] M (fun z5 M5 => Q 0 M5))
set_option maxRecDepth 10000 in
theorem s_use_0 {l : Launch} {G : GT} {m : Int} {a : Int → Int} {d mc ms : Nat} {S : Sh} {Q : Int → Mem → Prop} {rc : MP} {cl : MC} {V0 V M : Mem} {x1 : Int} (hrc : RCok l G m a S V0 Q d mc ms rc) (hcl : CLok l G m a S d cl) (mr : MR m a S V M) (mf : MF m a V0 V) (hB : B_use_0 rc cl Q d x1 M) : XJ l G bX12_use (Qm m a S V0 Q) (d + 1) 0 [vr m, vi x1, vu, vu] [] S V mc ms := by
  unfold B_use_0 at hB
  refine X_aload_n dX12_use_0 rfl ?_
  refine X_getfield (ci := 12) (k := 52) (v := vr (a 52)) dX12_use_1 rfl (by decide) kf_RX12_116 (congrArg vr (MR.ar mr (k := 52) (by decide)).1) mr.1 ?_
  refine X_sipush dX12_use_4 (by decide) (by decide) ?_
  refine X_aload_n dX12_use_7 rfl ?_
  refine X_getfield (ci := 12) (k := 9) (v := vi (M 0 9)) dX12_use_8 rfl (by decide) kf_RX12_263 (congrArg vi (MR.in_ mr (k := 9) (by decide) rfl)) mr.1 ?_
  refine X_imulN dX12_use_11 hB.1 hB.2.1 ?_
  refine X_iload_n dX12_use_12 rfl ?_
  refine X_iaddN dX12_use_13 hB.2.2.1 hB.2.2.2.1 ?_
  refine X_iaload dX12_use_14 ((MR.ar mr (k := 52) (by decide)).2.1.trans (by decide)) hB.2.2.2.2.1 (lt_eq hB.2.2.2.2.2.1 (MR.ln mr (k := 52) (by decide) (by decide))) ?_
  refine X_top (v := vi (M 52 ((160 * (M 0 9)) + x1))) (congrArg vi (MR.el mr (k := 52) (by decide) rfl)) ?_
  refine X_istore_n dX12_use_15 (by decide) rfl ?_
  refine X_iload_n dX12_use_16 rfl ?_
  refine X_iconst dX12_use_17 (by decide) ?_
  refine X_icmp_ne dX12_use_18 (tgt := 31) rfl (fun c1 => ?_) (fun c1 => ?_)
  · refine X_iload_n dX12_use_31 rfl ?_
    refine X_if_ne dX12_use_32 (tgt := 40) rfl (fun c2 => ?_) (fun c2 => ?_)
    · exact X_ret (z := 0) dX12_use_40 rfl (fun _ => trivial) ⟨rfl, _, ((hB.2.2.2.2.2.2.1 c1).1 c2), mr, mf⟩
    · refine X_aload_n dX12_use_35 rfl ?_
      refine X_iload_n dX12_use_36 rfl ?_
      refine X_invV (ci := 12) (as := [vi x1]) (st := []) okX12_starts dX12_use_37 km_RX12_411 rfl rfl (Nat.le_of_ble_eq_true rfl) rfl rfl mr.1 (CT.of d 0 0 (hcl n_starts_0 rfl [x1] _ _ _ ((hB.2.2.2.2.2.2.1 c1).2 c2) mr) (Nat.le_refl _) (Nat.zero_le _) (Nat.zero_le _) (fun z3 S3 V3 hq3 => ?_))
      obtain ⟨rfl, M3, hc4, mr3, hf3⟩ := hq3
      have mf3 := MF.trans mf hf3
      exact X_ret (z := 0) dX12_use_40 rfl (fun _ => trivial) ⟨rfl, _, hc4, mr3, mf3⟩
  · refine X_aload_n dX12_use_21 rfl ?_
    refine X_iconst dX12_use_22 (by decide) ?_
    refine X_iload_n dX12_use_23 rfl ?_
    refine X_invV (ci := 12) (as := [vi 2, vi x1]) (st := []) okX12_failing dX12_use_24 km_RX12_407 rfl rfl (Nat.le_of_ble_eq_true rfl) rfl rfl mr.1 (CT.of d 0 0 (hcl n_failing_0 rfl [2, x1] _ _ _ (hB.2.2.2.2.2.2.2 c1) mr) (Nat.le_refl _) (Nat.zero_le _) (Nat.zero_le _) (fun z5 S5 V5 hq5 => ?_))
    obtain ⟨rfl, M5, hc6, mr5, hf5⟩ := hq5
    have mf5 := MF.trans mf hf5
    refine X_istore_n dX12_use_27 (by decide) rfl ?_
    refine X_goto dX12_use_28 (tgt := 40) rfl ?_
    exact X_ret (z := 0) dX12_use_40 rfl (fun _ => trivial) ⟨rfl, _, hc6, mr5, mf5⟩
def B_starts_0 (rc : MP) (cl : MC) (Q : Int → Mem → Prop) (d : Nat) (x1 : Int) (M : Mem) : Prop := ((M 0 64) ≠ 12 → -2147483648 ≤ 160 * (M 0 9) ∧ 160 * (M 0 9) ≤ 2147483647 ∧ -2147483648 ≤ (160 * (M 0 9)) + x1 ∧ (160 * (M 0 9)) + x1 ≤ 2147483647 ∧ 0 ≤ ((160 * (M 0 9)) + x1) ∧ ((160 * (M 0 9)) + x1) < 1600 ∧ 0 ≤ (M 0 9) ∧ (M 0 9) < 10 ∧ -2147483648 ≤ (160 * (M 0 9)) + (M 59 (M 0 9)) ∧ (160 * (M 0 9)) + (M 59 (M 0 9)) ≤ 2147483647 ∧ 0 ≤ ((160 * (M 0 9)) + (M 59 (M 0 9))) ∧ ((160 * (M 0 9)) + (M 59 (M 0 9))) < 1600 ∧ -2147483648 ≤ (M 59 (M 0 9)) + 1 ∧ (M 59 (M 0 9)) + 1 ≤ 2147483647 ∧ 0 ≤ (M 0 64) ∧ (M 0 64) < 13 ∧ -2147483648 ≤ (M 0 64) + 1 ∧ (M 0 64) + 1 ≤ 2147483647 ∧ (100 ≤ x1 → -2147483648 ≤ 48 * (M 0 9) ∧ 48 * (M 0 9) ≤ 2147483647 ∧ -2147483648 ≤ (48 * (M 0 9)) + x1 ∧ (48 * (M 0 9)) + x1 ≤ 2147483647 ∧ -2147483648 ≤ ((48 * (M 0 9)) + x1) - 100 ∧ ((48 * (M 0 9)) + x1) - 100 ≤ 2147483647 ∧ cl n_startsHolder_0 [((48 * (M 0 9)) + x1) - 100] (up (up (up (up (up M 52 ((160 * (M 0 9)) + x1) 3) 58 ((160 * (M 0 9)) + (M 59 (M 0 9))) x1) 59 (M 0 9) ((M 59 (M 0 9)) + 1)) 63 (M 0 64) x1) 0 64 ((M 0 64) + 1)) (fun z3 M3 => -2147483648 ≤ (M3 0 64) - 1 ∧ (M3 0 64) - 1 ≤ 2147483647 ∧ -2147483648 ≤ 160 * (M3 0 9) ∧ 160 * (M3 0 9) ≤ 2147483647 ∧ -2147483648 ≤ (160 * (M3 0 9)) + x1 ∧ (160 * (M3 0 9)) + x1 ≤ 2147483647 ∧ ((M3 0 65) = 0 → 0 ≤ ((160 * (M3 0 9)) + x1) ∧ ((160 * (M3 0 9)) + x1) < 1600 ∧ ((M3 0 65) = 0 → Q 0 (up (up M3 0 64 ((M3 0 64) - 1)) 52 ((160 * (M3 0 9)) + x1) 1)) ∧ (¬ ((M3 0 65) = 0) → 0 ≤ (M3 0 68) ∧ (M3 0 68) < 40 ∧ -2147483648 ≤ (M3 0 68) + 1 ∧ (M3 0 68) + 1 ≤ 2147483647 ∧ Q 0 (up (up (up (up (up M3 0 64 ((M3 0 64) - 1)) 52 ((160 * (M3 0 9)) + x1) 1) 66 (M3 0 68) 1) 67 (M3 0 68) x1) 0 68 ((M3 0 68) + 1)))) ∧ (¬ ((M3 0 65) = 0) → 0 ≤ ((160 * (M3 0 9)) + x1) ∧ ((160 * (M3 0 9)) + x1) < 1600 ∧ ((M3 0 65) = 0 → Q 0 (up (up M3 0 64 ((M3 0 64) - 1)) 52 ((160 * (M3 0 9)) + x1) 2)) ∧ (¬ ((M3 0 65) = 0) → 0 ≤ (M3 0 68) ∧ (M3 0 68) < 40 ∧ -2147483648 ≤ (M3 0 68) + 1 ∧ (M3 0 68) + 1 ≤ 2147483647 ∧ Q 0 (up (up (up (up (up M3 0 64 ((M3 0 64) - 1)) 52 ((160 * (M3 0 9)) + x1) 2) 66 (M3 0 68) 1) 67 (M3 0 68) x1) 0 68 ((M3 0 68) + 1)))))) ∧ (¬ (100 ≤ x1) → -2147483648 ≤ 12 * (M 0 9) ∧ 12 * (M 0 9) ≤ 2147483647 ∧ -2147483648 ≤ (12 * (M 0 9)) + x1 ∧ (12 * (M 0 9)) + x1 ≤ 2147483647 ∧ cl n_startsEnum_0 [(12 * (M 0 9)) + x1] (up (up (up (up (up M 52 ((160 * (M 0 9)) + x1) 3) 58 ((160 * (M 0 9)) + (M 59 (M 0 9))) x1) 59 (M 0 9) ((M 59 (M 0 9)) + 1)) 63 (M 0 64) x1) 0 64 ((M 0 64) + 1)) (fun z8 M8 => -2147483648 ≤ (M8 0 64) - 1 ∧ (M8 0 64) - 1 ≤ 2147483647 ∧ -2147483648 ≤ 160 * (M8 0 9) ∧ 160 * (M8 0 9) ≤ 2147483647 ∧ -2147483648 ≤ (160 * (M8 0 9)) + x1 ∧ (160 * (M8 0 9)) + x1 ≤ 2147483647 ∧ ((M8 0 65) = 0 → 0 ≤ ((160 * (M8 0 9)) + x1) ∧ ((160 * (M8 0 9)) + x1) < 1600 ∧ ((M8 0 65) = 0 → Q 0 (up (up M8 0 64 ((M8 0 64) - 1)) 52 ((160 * (M8 0 9)) + x1) 1)) ∧ (¬ ((M8 0 65) = 0) → 0 ≤ (M8 0 68) ∧ (M8 0 68) < 40 ∧ -2147483648 ≤ (M8 0 68) + 1 ∧ (M8 0 68) + 1 ≤ 2147483647 ∧ Q 0 (up (up (up (up (up M8 0 64 ((M8 0 64) - 1)) 52 ((160 * (M8 0 9)) + x1) 1) 66 (M8 0 68) 1) 67 (M8 0 68) x1) 0 68 ((M8 0 68) + 1)))) ∧ (¬ ((M8 0 65) = 0) → 0 ≤ ((160 * (M8 0 9)) + x1) ∧ ((160 * (M8 0 9)) + x1) < 1600 ∧ ((M8 0 65) = 0 → Q 0 (up (up M8 0 64 ((M8 0 64) - 1)) 52 ((160 * (M8 0 9)) + x1) 2)) ∧ (¬ ((M8 0 65) = 0) → 0 ≤ (M8 0 68) ∧ (M8 0 68) < 40 ∧ -2147483648 ≤ (M8 0 68) + 1 ∧ (M8 0 68) + 1 ≤ 2147483647 ∧ Q 0 (up (up (up (up (up M8 0 64 ((M8 0 64) - 1)) 52 ((160 * (M8 0 9)) + x1) 2) 66 (M8 0 68) 1) 67 (M8 0 68) x1) 0 68 ((M8 0 68) + 1))))))) ∧ (¬ ((M 0 64) ≠ 12) → cl n_failing_0 [6, (-1)] M (fun z13 M13 => Q 0 M13))
set_option maxRecDepth 10000 in
theorem s_starts_0 {l : Launch} {G : GT} {m : Int} {a : Int → Int} {d mc ms : Nat} {S : Sh} {Q : Int → Mem → Prop} {rc : MP} {cl : MC} {V0 V M : Mem} {x1 : Int} (hrc : RCok l G m a S V0 Q d mc ms rc) (hcl : CLok l G m a S d cl) (mr : MR m a S V M) (mf : MF m a V0 V) (hB : B_starts_0 rc cl Q d x1 M) : XJ l G bX12_starts (Qm m a S V0 Q) (d + 1) 0 [vr m, vi x1, vu] [] S V mc ms := by
  unfold B_starts_0 at hB
  refine X_aload_n dX12_starts_0 rfl ?_
  refine X_getfield (ci := 12) (k := 64) (v := vi (M 0 64)) dX12_starts_1 rfl (by decide) kf_RX12_413 (congrArg vi (MR.in_ mr (k := 64) (by decide) rfl)) mr.1 ?_
  refine X_bipush dX12_starts_4 (by decide) (by decide) ?_
  refine X_icmp_ne dX12_starts_6 (tgt := 18) rfl (fun c1 => ?_) (fun c1 => ?_)
  · refine X_aload_n dX12_starts_18 rfl ?_
    refine X_getfield (ci := 12) (k := 52) (v := vr (a 52)) dX12_starts_19 rfl (by decide) kf_RX12_116 (congrArg vr (MR.ar mr (k := 52) (by decide)).1) mr.1 ?_
    refine X_sipush dX12_starts_22 (by decide) (by decide) ?_
    refine X_aload_n dX12_starts_25 rfl ?_
    refine X_getfield (ci := 12) (k := 9) (v := vi (M 0 9)) dX12_starts_26 rfl (by decide) kf_RX12_263 (congrArg vi (MR.in_ mr (k := 9) (by decide) rfl)) mr.1 ?_
    refine X_imulN dX12_starts_29 (hB.1 c1).1 (hB.1 c1).2.1 ?_
    refine X_iload_n dX12_starts_30 rfl ?_
    refine X_iaddN dX12_starts_31 (hB.1 c1).2.2.1 (hB.1 c1).2.2.2.1 ?_
    refine X_iconst dX12_starts_32 (by decide) ?_
    refine X_iastore dX12_starts_33 ((MR.ar mr (k := 52) (by decide)).2.1.trans (by decide)) (hB.1 c1).2.2.2.2.1 (lt_eq (hB.1 c1).2.2.2.2.2.1 (MR.ln mr (k := 52) (by decide) (by decide))) ?_
    refine X_aload_n dX12_starts_34 rfl ?_
    refine X_getfield (ci := 12) (k := 58) (v := vr (a 58)) dX12_starts_35 rfl (by decide) kf_RX12_134 (congrArg vr (MR.ar (MR.putA mr (k := 52) (j := (160 * (M 0 9)) + x1) (z := 3) (by decide)) (k := 58) (by decide)).1) (MR.putA mr (k := 52) (j := (160 * (M 0 9)) + x1) (z := 3) (by decide)).1 ?_
    refine X_sipush dX12_starts_38 (by decide) (by decide) ?_
    refine X_aload_n dX12_starts_41 rfl ?_
    refine X_getfield (ci := 12) (k := 9) (v := vi (M 0 9)) dX12_starts_42 rfl (by decide) kf_RX12_263 (congrArg vi (MR.in_ (MR.putA mr (k := 52) (j := (160 * (M 0 9)) + x1) (z := 3) (by decide)) (k := 9) (by decide) (up_ne (Or.inl (by decide))))) (MR.putA mr (k := 52) (j := (160 * (M 0 9)) + x1) (z := 3) (by decide)).1 ?_
    refine X_imulN dX12_starts_45 (hB.1 c1).1 (hB.1 c1).2.1 ?_
    refine X_aload_n dX12_starts_46 rfl ?_
    refine X_getfield (ci := 12) (k := 59) (v := vr (a 59)) dX12_starts_47 rfl (by decide) kf_RX12_137 (congrArg vr (MR.ar (MR.putA mr (k := 52) (j := (160 * (M 0 9)) + x1) (z := 3) (by decide)) (k := 59) (by decide)).1) (MR.putA mr (k := 52) (j := (160 * (M 0 9)) + x1) (z := 3) (by decide)).1 ?_
    refine X_aload_n dX12_starts_50 rfl ?_
    refine X_getfield (ci := 12) (k := 9) (v := vi (M 0 9)) dX12_starts_51 rfl (by decide) kf_RX12_263 (congrArg vi (MR.in_ (MR.putA mr (k := 52) (j := (160 * (M 0 9)) + x1) (z := 3) (by decide)) (k := 9) (by decide) (up_ne (Or.inl (by decide))))) (MR.putA mr (k := 52) (j := (160 * (M 0 9)) + x1) (z := 3) (by decide)).1 ?_
    refine X_iaload dX12_starts_54 ((MR.ar (MR.putA mr (k := 52) (j := (160 * (M 0 9)) + x1) (z := 3) (by decide)) (k := 59) (by decide)).2.1.trans (by decide)) (hB.1 c1).2.2.2.2.2.2.1 (lt_eq (hB.1 c1).2.2.2.2.2.2.2.1 (MR.ln (MR.putA mr (k := 52) (j := (160 * (M 0 9)) + x1) (z := 3) (by decide)) (k := 59) (by decide) (by decide))) ?_
    refine X_top (v := vi (M 59 (M 0 9))) (congrArg vi (MR.el (MR.putA mr (k := 52) (j := (160 * (M 0 9)) + x1) (z := 3) (by decide)) (k := 59) (by decide) (up_ne (Or.inl (by decide))))) ?_
    refine X_iaddN dX12_starts_55 (hB.1 c1).2.2.2.2.2.2.2.2.1 (hB.1 c1).2.2.2.2.2.2.2.2.2.1 ?_
    refine X_iload_n dX12_starts_56 rfl ?_
    refine X_iastore dX12_starts_57 ((MR.ar (MR.putA mr (k := 52) (j := (160 * (M 0 9)) + x1) (z := 3) (by decide)) (k := 58) (by decide)).2.1.trans (by decide)) (hB.1 c1).2.2.2.2.2.2.2.2.2.2.1 (lt_eq (hB.1 c1).2.2.2.2.2.2.2.2.2.2.2.1 (MR.ln (MR.putA mr (k := 52) (j := (160 * (M 0 9)) + x1) (z := 3) (by decide)) (k := 58) (by decide) (by decide))) ?_
    refine X_aload_n dX12_starts_58 rfl ?_
    refine X_getfield (ci := 12) (k := 59) (v := vr (a 59)) dX12_starts_59 rfl (by decide) kf_RX12_137 (congrArg vr (MR.ar (MR.putA (MR.putA mr (k := 52) (j := (160 * (M 0 9)) + x1) (z := 3) (by decide)) (k := 58) (j := (160 * (M 0 9)) + (M 59 (M 0 9))) (z := x1) (by decide)) (k := 59) (by decide)).1) (MR.putA (MR.putA mr (k := 52) (j := (160 * (M 0 9)) + x1) (z := 3) (by decide)) (k := 58) (j := (160 * (M 0 9)) + (M 59 (M 0 9))) (z := x1) (by decide)).1 ?_
    refine X_aload_n dX12_starts_62 rfl ?_
    refine X_getfield (ci := 12) (k := 9) (v := vi (M 0 9)) dX12_starts_63 rfl (by decide) kf_RX12_263 (congrArg vi (MR.in_ (MR.putA (MR.putA mr (k := 52) (j := (160 * (M 0 9)) + x1) (z := 3) (by decide)) (k := 58) (j := (160 * (M 0 9)) + (M 59 (M 0 9))) (z := x1) (by decide)) (k := 9) (by decide) ((up_ne (Or.inl (by decide))).trans (up_ne (Or.inl (by decide)))))) (MR.putA (MR.putA mr (k := 52) (j := (160 * (M 0 9)) + x1) (z := 3) (by decide)) (k := 58) (j := (160 * (M 0 9)) + (M 59 (M 0 9))) (z := x1) (by decide)).1 ?_
    refine X_dup2 dX12_starts_66 rfl (rv_cat _) ?_
    refine X_iaload dX12_starts_67 ((MR.ar (MR.putA (MR.putA mr (k := 52) (j := (160 * (M 0 9)) + x1) (z := 3) (by decide)) (k := 58) (j := (160 * (M 0 9)) + (M 59 (M 0 9))) (z := x1) (by decide)) (k := 59) (by decide)).2.1.trans (by decide)) (hB.1 c1).2.2.2.2.2.2.1 (lt_eq (hB.1 c1).2.2.2.2.2.2.2.1 (MR.ln (MR.putA (MR.putA mr (k := 52) (j := (160 * (M 0 9)) + x1) (z := 3) (by decide)) (k := 58) (j := (160 * (M 0 9)) + (M 59 (M 0 9))) (z := x1) (by decide)) (k := 59) (by decide) (by decide))) ?_
    refine X_top (v := vi (M 59 (M 0 9))) (congrArg vi (MR.el (MR.putA (MR.putA mr (k := 52) (j := (160 * (M 0 9)) + x1) (z := 3) (by decide)) (k := 58) (j := (160 * (M 0 9)) + (M 59 (M 0 9))) (z := x1) (by decide)) (k := 59) (by decide) ((up_ne (Or.inl (by decide))).trans (up_ne (Or.inl (by decide)))))) ?_
    refine X_iconst dX12_starts_68 (by decide) ?_
    refine X_iaddN dX12_starts_69 (hB.1 c1).2.2.2.2.2.2.2.2.2.2.2.2.1 (hB.1 c1).2.2.2.2.2.2.2.2.2.2.2.2.2.1 ?_
    refine X_iastore dX12_starts_70 ((MR.ar (MR.putA (MR.putA mr (k := 52) (j := (160 * (M 0 9)) + x1) (z := 3) (by decide)) (k := 58) (j := (160 * (M 0 9)) + (M 59 (M 0 9))) (z := x1) (by decide)) (k := 59) (by decide)).2.1.trans (by decide)) (hB.1 c1).2.2.2.2.2.2.1 (lt_eq (hB.1 c1).2.2.2.2.2.2.2.1 (MR.ln (MR.putA (MR.putA mr (k := 52) (j := (160 * (M 0 9)) + x1) (z := 3) (by decide)) (k := 58) (j := (160 * (M 0 9)) + (M 59 (M 0 9))) (z := x1) (by decide)) (k := 59) (by decide) (by decide))) ?_
    refine X_aload_n dX12_starts_71 rfl ?_
    refine X_getfield (ci := 12) (k := 63) (v := vr (a 63)) dX12_starts_72 rfl (by decide) kf_RX12_149 (congrArg vr (MR.ar (MR.putA (MR.putA (MR.putA mr (k := 52) (j := (160 * (M 0 9)) + x1) (z := 3) (by decide)) (k := 58) (j := (160 * (M 0 9)) + (M 59 (M 0 9))) (z := x1) (by decide)) (k := 59) (j := M 0 9) (z := (M 59 (M 0 9)) + 1) (by decide)) (k := 63) (by decide)).1) (MR.putA (MR.putA (MR.putA mr (k := 52) (j := (160 * (M 0 9)) + x1) (z := 3) (by decide)) (k := 58) (j := (160 * (M 0 9)) + (M 59 (M 0 9))) (z := x1) (by decide)) (k := 59) (j := M 0 9) (z := (M 59 (M 0 9)) + 1) (by decide)).1 ?_
    refine X_aload_n dX12_starts_75 rfl ?_
    refine X_getfield (ci := 12) (k := 64) (v := vi (M 0 64)) dX12_starts_76 rfl (by decide) kf_RX12_413 (congrArg vi (MR.in_ (MR.putA (MR.putA (MR.putA mr (k := 52) (j := (160 * (M 0 9)) + x1) (z := 3) (by decide)) (k := 58) (j := (160 * (M 0 9)) + (M 59 (M 0 9))) (z := x1) (by decide)) (k := 59) (j := M 0 9) (z := (M 59 (M 0 9)) + 1) (by decide)) (k := 64) (by decide) ((up_ne (Or.inl (by decide))).trans ((up_ne (Or.inl (by decide))).trans (up_ne (Or.inl (by decide))))))) (MR.putA (MR.putA (MR.putA mr (k := 52) (j := (160 * (M 0 9)) + x1) (z := 3) (by decide)) (k := 58) (j := (160 * (M 0 9)) + (M 59 (M 0 9))) (z := x1) (by decide)) (k := 59) (j := M 0 9) (z := (M 59 (M 0 9)) + 1) (by decide)).1 ?_
    refine X_iload_n dX12_starts_79 rfl ?_
    refine X_iastore dX12_starts_80 ((MR.ar (MR.putA (MR.putA (MR.putA mr (k := 52) (j := (160 * (M 0 9)) + x1) (z := 3) (by decide)) (k := 58) (j := (160 * (M 0 9)) + (M 59 (M 0 9))) (z := x1) (by decide)) (k := 59) (j := M 0 9) (z := (M 59 (M 0 9)) + 1) (by decide)) (k := 63) (by decide)).2.1.trans (by decide)) (hB.1 c1).2.2.2.2.2.2.2.2.2.2.2.2.2.2.1 (lt_eq (hB.1 c1).2.2.2.2.2.2.2.2.2.2.2.2.2.2.2.1 (MR.ln (MR.putA (MR.putA (MR.putA mr (k := 52) (j := (160 * (M 0 9)) + x1) (z := 3) (by decide)) (k := 58) (j := (160 * (M 0 9)) + (M 59 (M 0 9))) (z := x1) (by decide)) (k := 59) (j := M 0 9) (z := (M 59 (M 0 9)) + 1) (by decide)) (k := 63) (by decide) (by decide))) ?_
    refine X_aload_n dX12_starts_81 rfl ?_
    refine X_dup dX12_starts_82 (rv_cat _) ?_
    refine X_getfield (ci := 12) (k := 64) (v := vi (M 0 64)) dX12_starts_83 rfl (by decide) kf_RX12_413 (congrArg vi (MR.in_ (MR.putA (MR.putA (MR.putA (MR.putA mr (k := 52) (j := (160 * (M 0 9)) + x1) (z := 3) (by decide)) (k := 58) (j := (160 * (M 0 9)) + (M 59 (M 0 9))) (z := x1) (by decide)) (k := 59) (j := M 0 9) (z := (M 59 (M 0 9)) + 1) (by decide)) (k := 63) (j := M 0 64) (z := x1) (by decide)) (k := 64) (by decide) ((up_ne (Or.inl (by decide))).trans ((up_ne (Or.inl (by decide))).trans ((up_ne (Or.inl (by decide))).trans (up_ne (Or.inl (by decide)))))))) (MR.putA (MR.putA (MR.putA (MR.putA mr (k := 52) (j := (160 * (M 0 9)) + x1) (z := 3) (by decide)) (k := 58) (j := (160 * (M 0 9)) + (M 59 (M 0 9))) (z := x1) (by decide)) (k := 59) (j := M 0 9) (z := (M 59 (M 0 9)) + 1) (by decide)) (k := 63) (j := M 0 64) (z := x1) (by decide)).1 ?_
    refine X_iconst dX12_starts_86 (by decide) ?_
    refine X_iaddN dX12_starts_87 (hB.1 c1).2.2.2.2.2.2.2.2.2.2.2.2.2.2.2.2.1 (hB.1 c1).2.2.2.2.2.2.2.2.2.2.2.2.2.2.2.2.2.1 ?_
    refine X_putfield (ci := 12) (k := 64) (z := ((M 0 64) + 1)) dX12_starts_88 rfl (by decide) kf_RX12_413 (Or.inl rfl) (Or.inl rfl) rfl (fun hv => hv) (MR.putA (MR.putA (MR.putA (MR.putA mr (k := 52) (j := (160 * (M 0 9)) + x1) (z := 3) (by decide)) (k := 58) (j := (160 * (M 0 9)) + (M 59 (M 0 9))) (z := x1) (by decide)) (k := 59) (j := M 0 9) (z := (M 59 (M 0 9)) + 1) (by decide)) (k := 63) (j := M 0 64) (z := x1) (by decide)).1 ?_
    refine X_iload_n dX12_starts_91 rfl ?_
    refine X_bipush dX12_starts_92 (by decide) (by decide) ?_
    refine X_icmp_ge dX12_starts_94 (tgt := 113) rfl (fun c2 => ?_) (fun c2 => ?_)
    · refine X_aload_n dX12_starts_113 rfl ?_
      refine X_bipush dX12_starts_114 (by decide) (by decide) ?_
      refine X_aload_n dX12_starts_116 rfl ?_
      refine X_getfield (ci := 12) (k := 9) (v := vi (M 0 9)) dX12_starts_117 rfl (by decide) kf_RX12_263 (congrArg vi (MR.in_ (MR.putI (MR.putA (MR.putA (MR.putA (MR.putA mr (k := 52) (j := (160 * (M 0 9)) + x1) (z := 3) (by decide)) (k := 58) (j := (160 * (M 0 9)) + (M 59 (M 0 9))) (z := x1) (by decide)) (k := 59) (j := M 0 9) (z := (M 59 (M 0 9)) + 1) (by decide)) (k := 63) (j := M 0 64) (z := x1) (by decide)) (k := 64) (z := (M 0 64) + 1) (by decide)) (k := 9) (by decide) ((up_ne (Or.inr (by decide))).trans ((up_ne (Or.inl (by decide))).trans ((up_ne (Or.inl (by decide))).trans ((up_ne (Or.inl (by decide))).trans (up_ne (Or.inl (by decide))))))))) (MR.putI (MR.putA (MR.putA (MR.putA (MR.putA mr (k := 52) (j := (160 * (M 0 9)) + x1) (z := 3) (by decide)) (k := 58) (j := (160 * (M 0 9)) + (M 59 (M 0 9))) (z := x1) (by decide)) (k := 59) (j := M 0 9) (z := (M 59 (M 0 9)) + 1) (by decide)) (k := 63) (j := M 0 64) (z := x1) (by decide)) (k := 64) (z := (M 0 64) + 1) (by decide)).1 ?_
      refine X_imulN dX12_starts_120 ((hB.1 c1).2.2.2.2.2.2.2.2.2.2.2.2.2.2.2.2.2.2.1 c2).1 ((hB.1 c1).2.2.2.2.2.2.2.2.2.2.2.2.2.2.2.2.2.2.1 c2).2.1 ?_
      refine X_iload_n dX12_starts_121 rfl ?_
      refine X_iaddN dX12_starts_122 ((hB.1 c1).2.2.2.2.2.2.2.2.2.2.2.2.2.2.2.2.2.2.1 c2).2.2.1 ((hB.1 c1).2.2.2.2.2.2.2.2.2.2.2.2.2.2.2.2.2.2.1 c2).2.2.2.1 ?_
      refine X_bipush dX12_starts_123 (by decide) (by decide) ?_
      refine X_isubN dX12_starts_125 ((hB.1 c1).2.2.2.2.2.2.2.2.2.2.2.2.2.2.2.2.2.2.1 c2).2.2.2.2.1 ((hB.1 c1).2.2.2.2.2.2.2.2.2.2.2.2.2.2.2.2.2.2.1 c2).2.2.2.2.2.1 ?_
      refine X_invV (ci := 12) (as := [vi (((48 * (M 0 9)) + x1) - 100)]) (st := []) okX12_startsHolder dX12_starts_126 km_RX12_419 rfl rfl (Nat.le_of_ble_eq_true rfl) rfl rfl (MR.putI (MR.putA (MR.putA (MR.putA (MR.putA mr (k := 52) (j := (160 * (M 0 9)) + x1) (z := 3) (by decide)) (k := 58) (j := (160 * (M 0 9)) + (M 59 (M 0 9))) (z := x1) (by decide)) (k := 59) (j := M 0 9) (z := (M 59 (M 0 9)) + 1) (by decide)) (k := 63) (j := M 0 64) (z := x1) (by decide)) (k := 64) (z := (M 0 64) + 1) (by decide)).1 (CT.of d 0 0 (hcl n_startsHolder_0 rfl [((48 * (M 0 9)) + x1) - 100] _ _ _ ((hB.1 c1).2.2.2.2.2.2.2.2.2.2.2.2.2.2.2.2.2.2.1 c2).2.2.2.2.2.2 (MR.putI (MR.putA (MR.putA (MR.putA (MR.putA mr (k := 52) (j := (160 * (M 0 9)) + x1) (z := 3) (by decide)) (k := 58) (j := (160 * (M 0 9)) + (M 59 (M 0 9))) (z := x1) (by decide)) (k := 59) (j := M 0 9) (z := (M 59 (M 0 9)) + 1) (by decide)) (k := 63) (j := M 0 64) (z := x1) (by decide)) (k := 64) (z := (M 0 64) + 1) (by decide))) (Nat.le_refl _) (Nat.zero_le _) (Nat.zero_le _) (fun z3 S3 V3 hq3 => ?_))
      obtain ⟨rfl, M3, hc4, mr3, hf3⟩ := hq3
      have mf3 := MF.trans (MF.putI (MF.putA (MF.putA (MF.putA (MF.putA mf (k := 52) (j := (160 * (M 0 9)) + x1) (z := 3) (by decide)) (k := 58) (j := (160 * (M 0 9)) + (M 59 (M 0 9))) (z := x1) (by decide)) (k := 59) (j := M 0 9) (z := (M 59 (M 0 9)) + 1) (by decide)) (k := 63) (j := M 0 64) (z := x1) (by decide)) (k := 64) (z := (M 0 64) + 1)) hf3
      refine X_aload_n dX12_starts_129 rfl ?_
      refine X_dup dX12_starts_130 (rv_cat _) ?_
      refine X_getfield (ci := 12) (k := 64) (v := vi (M3 0 64)) dX12_starts_131 rfl (by decide) kf_RX12_413 (congrArg vi (MR.in_ mr3 (k := 64) (by decide) rfl)) mr3.1 ?_
      refine X_iconst dX12_starts_134 (by decide) ?_
      refine X_isubN dX12_starts_135 hc4.1 hc4.2.1 ?_
      refine X_putfield (ci := 12) (k := 64) (z := ((M3 0 64) - 1)) dX12_starts_136 rfl (by decide) kf_RX12_413 (Or.inl rfl) (Or.inl rfl) rfl (fun hv => hv) mr3.1 ?_
      refine X_aload_n dX12_starts_139 rfl ?_
      refine X_getfield (ci := 12) (k := 52) (v := vr (a 52)) dX12_starts_140 rfl (by decide) kf_RX12_116 (congrArg vr (MR.ar (MR.putI mr3 (k := 64) (z := (M3 0 64) - 1) (by decide)) (k := 52) (by decide)).1) (MR.putI mr3 (k := 64) (z := (M3 0 64) - 1) (by decide)).1 ?_
      refine X_sipush dX12_starts_143 (by decide) (by decide) ?_
      refine X_aload_n dX12_starts_146 rfl ?_
      refine X_getfield (ci := 12) (k := 9) (v := vi (M3 0 9)) dX12_starts_147 rfl (by decide) kf_RX12_263 (congrArg vi (MR.in_ (MR.putI mr3 (k := 64) (z := (M3 0 64) - 1) (by decide)) (k := 9) (by decide) (up_ne (Or.inr (by decide))))) (MR.putI mr3 (k := 64) (z := (M3 0 64) - 1) (by decide)).1 ?_
      refine X_imulN dX12_starts_150 hc4.2.2.1 hc4.2.2.2.1 ?_
      refine X_iload_n dX12_starts_151 rfl ?_
      refine X_iaddN dX12_starts_152 hc4.2.2.2.2.1 hc4.2.2.2.2.2.1 ?_
      refine X_aload_n dX12_starts_153 rfl ?_
      refine X_getfield (ci := 12) (k := 65) (v := vi (M3 0 65)) dX12_starts_154 rfl (by decide) kf_RX12_401 (congrArg vi (MR.in_ (MR.putI mr3 (k := 64) (z := (M3 0 64) - 1) (by decide)) (k := 65) (by decide) (up_ne (Or.inr (by decide))))) (MR.putI mr3 (k := 64) (z := (M3 0 64) - 1) (by decide)).1 ?_
      refine X_if_eq dX12_starts_157 (tgt := 164) rfl (fun c5 => ?_) (fun c5 => ?_)
      · refine X_iconst dX12_starts_164 (by decide) ?_
        refine X_iastore dX12_starts_165 ((MR.ar (MR.putI mr3 (k := 64) (z := (M3 0 64) - 1) (by decide)) (k := 52) (by decide)).2.1.trans (by decide)) (hc4.2.2.2.2.2.2.1 c5).1 (lt_eq (hc4.2.2.2.2.2.2.1 c5).2.1 (MR.ln (MR.putI mr3 (k := 64) (z := (M3 0 64) - 1) (by decide)) (k := 52) (by decide) (by decide))) ?_
        refine X_aload_n dX12_starts_166 rfl ?_
        refine X_getfield (ci := 12) (k := 65) (v := vi (M3 0 65)) dX12_starts_167 rfl (by decide) kf_RX12_401 (congrArg vi (MR.in_ (MR.putA (MR.putI mr3 (k := 64) (z := (M3 0 64) - 1) (by decide)) (k := 52) (j := (160 * (M3 0 9)) + x1) (z := 1) (by decide)) (k := 65) (by decide) ((up_ne (Or.inl (by decide))).trans (up_ne (Or.inr (by decide)))))) (MR.putA (MR.putI mr3 (k := 64) (z := (M3 0 64) - 1) (by decide)) (k := 52) (j := (160 * (M3 0 9)) + x1) (z := 1) (by decide)).1 ?_
        refine X_if_eq dX12_starts_170 (tgt := 203) rfl (fun c6 => ?_) (fun c6 => ?_)
        · exact X_ret (z := 0) dX12_starts_203 rfl (fun _ => trivial) ⟨rfl, _, ((hc4.2.2.2.2.2.2.1 c5).2.2.1 c6), (MR.putA (MR.putI mr3 (k := 64) (z := (M3 0 64) - 1) (by decide)) (k := 52) (j := (160 * (M3 0 9)) + x1) (z := 1) (by decide)), (MF.putA (MF.putI mf3 (k := 64) (z := (M3 0 64) - 1)) (k := 52) (j := (160 * (M3 0 9)) + x1) (z := 1) (by decide))⟩
        · refine X_aload_n dX12_starts_173 rfl ?_
          refine X_getfield (ci := 12) (k := 66) (v := vr (a 66)) dX12_starts_174 rfl (by decide) kf_RX12_152 (congrArg vr (MR.ar (MR.putA (MR.putI mr3 (k := 64) (z := (M3 0 64) - 1) (by decide)) (k := 52) (j := (160 * (M3 0 9)) + x1) (z := 1) (by decide)) (k := 66) (by decide)).1) (MR.putA (MR.putI mr3 (k := 64) (z := (M3 0 64) - 1) (by decide)) (k := 52) (j := (160 * (M3 0 9)) + x1) (z := 1) (by decide)).1 ?_
          refine X_aload_n dX12_starts_177 rfl ?_
          refine X_getfield (ci := 12) (k := 68) (v := vi (M3 0 68)) dX12_starts_178 rfl (by decide) kf_RX12_404 (congrArg vi (MR.in_ (MR.putA (MR.putI mr3 (k := 64) (z := (M3 0 64) - 1) (by decide)) (k := 52) (j := (160 * (M3 0 9)) + x1) (z := 1) (by decide)) (k := 68) (by decide) ((up_ne (Or.inl (by decide))).trans (up_ne (Or.inr (by decide)))))) (MR.putA (MR.putI mr3 (k := 64) (z := (M3 0 64) - 1) (by decide)) (k := 52) (j := (160 * (M3 0 9)) + x1) (z := 1) (by decide)).1 ?_
          refine X_iconst dX12_starts_181 (by decide) ?_
          refine X_iastore dX12_starts_182 ((MR.ar (MR.putA (MR.putI mr3 (k := 64) (z := (M3 0 64) - 1) (by decide)) (k := 52) (j := (160 * (M3 0 9)) + x1) (z := 1) (by decide)) (k := 66) (by decide)).2.1.trans (by decide)) ((hc4.2.2.2.2.2.2.1 c5).2.2.2 c6).1 (lt_eq ((hc4.2.2.2.2.2.2.1 c5).2.2.2 c6).2.1 (MR.ln (MR.putA (MR.putI mr3 (k := 64) (z := (M3 0 64) - 1) (by decide)) (k := 52) (j := (160 * (M3 0 9)) + x1) (z := 1) (by decide)) (k := 66) (by decide) (by decide))) ?_
          refine X_aload_n dX12_starts_183 rfl ?_
          refine X_getfield (ci := 12) (k := 67) (v := vr (a 67)) dX12_starts_184 rfl (by decide) kf_RX12_155 (congrArg vr (MR.ar (MR.putA (MR.putA (MR.putI mr3 (k := 64) (z := (M3 0 64) - 1) (by decide)) (k := 52) (j := (160 * (M3 0 9)) + x1) (z := 1) (by decide)) (k := 66) (j := M3 0 68) (z := 1) (by decide)) (k := 67) (by decide)).1) (MR.putA (MR.putA (MR.putI mr3 (k := 64) (z := (M3 0 64) - 1) (by decide)) (k := 52) (j := (160 * (M3 0 9)) + x1) (z := 1) (by decide)) (k := 66) (j := M3 0 68) (z := 1) (by decide)).1 ?_
          refine X_aload_n dX12_starts_187 rfl ?_
          refine X_getfield (ci := 12) (k := 68) (v := vi (M3 0 68)) dX12_starts_188 rfl (by decide) kf_RX12_404 (congrArg vi (MR.in_ (MR.putA (MR.putA (MR.putI mr3 (k := 64) (z := (M3 0 64) - 1) (by decide)) (k := 52) (j := (160 * (M3 0 9)) + x1) (z := 1) (by decide)) (k := 66) (j := M3 0 68) (z := 1) (by decide)) (k := 68) (by decide) ((up_ne (Or.inl (by decide))).trans ((up_ne (Or.inl (by decide))).trans (up_ne (Or.inr (by decide))))))) (MR.putA (MR.putA (MR.putI mr3 (k := 64) (z := (M3 0 64) - 1) (by decide)) (k := 52) (j := (160 * (M3 0 9)) + x1) (z := 1) (by decide)) (k := 66) (j := M3 0 68) (z := 1) (by decide)).1 ?_
          refine X_iload_n dX12_starts_191 rfl ?_
          refine X_iastore dX12_starts_192 ((MR.ar (MR.putA (MR.putA (MR.putI mr3 (k := 64) (z := (M3 0 64) - 1) (by decide)) (k := 52) (j := (160 * (M3 0 9)) + x1) (z := 1) (by decide)) (k := 66) (j := M3 0 68) (z := 1) (by decide)) (k := 67) (by decide)).2.1.trans (by decide)) ((hc4.2.2.2.2.2.2.1 c5).2.2.2 c6).1 (lt_eq ((hc4.2.2.2.2.2.2.1 c5).2.2.2 c6).2.1 (MR.ln (MR.putA (MR.putA (MR.putI mr3 (k := 64) (z := (M3 0 64) - 1) (by decide)) (k := 52) (j := (160 * (M3 0 9)) + x1) (z := 1) (by decide)) (k := 66) (j := M3 0 68) (z := 1) (by decide)) (k := 67) (by decide) (by decide))) ?_
          refine X_aload_n dX12_starts_193 rfl ?_
          refine X_dup dX12_starts_194 (rv_cat _) ?_
          refine X_getfield (ci := 12) (k := 68) (v := vi (M3 0 68)) dX12_starts_195 rfl (by decide) kf_RX12_404 (congrArg vi (MR.in_ (MR.putA (MR.putA (MR.putA (MR.putI mr3 (k := 64) (z := (M3 0 64) - 1) (by decide)) (k := 52) (j := (160 * (M3 0 9)) + x1) (z := 1) (by decide)) (k := 66) (j := M3 0 68) (z := 1) (by decide)) (k := 67) (j := M3 0 68) (z := x1) (by decide)) (k := 68) (by decide) ((up_ne (Or.inl (by decide))).trans ((up_ne (Or.inl (by decide))).trans ((up_ne (Or.inl (by decide))).trans (up_ne (Or.inr (by decide)))))))) (MR.putA (MR.putA (MR.putA (MR.putI mr3 (k := 64) (z := (M3 0 64) - 1) (by decide)) (k := 52) (j := (160 * (M3 0 9)) + x1) (z := 1) (by decide)) (k := 66) (j := M3 0 68) (z := 1) (by decide)) (k := 67) (j := M3 0 68) (z := x1) (by decide)).1 ?_
          refine X_iconst dX12_starts_198 (by decide) ?_
          refine X_iaddN dX12_starts_199 ((hc4.2.2.2.2.2.2.1 c5).2.2.2 c6).2.2.1 ((hc4.2.2.2.2.2.2.1 c5).2.2.2 c6).2.2.2.1 ?_
          refine X_putfield (ci := 12) (k := 68) (z := ((M3 0 68) + 1)) dX12_starts_200 rfl (by decide) kf_RX12_404 (Or.inl rfl) (Or.inl rfl) rfl (fun hv => hv) (MR.putA (MR.putA (MR.putA (MR.putI mr3 (k := 64) (z := (M3 0 64) - 1) (by decide)) (k := 52) (j := (160 * (M3 0 9)) + x1) (z := 1) (by decide)) (k := 66) (j := M3 0 68) (z := 1) (by decide)) (k := 67) (j := M3 0 68) (z := x1) (by decide)).1 ?_
          exact X_ret (z := 0) dX12_starts_203 rfl (fun _ => trivial) ⟨rfl, _, ((hc4.2.2.2.2.2.2.1 c5).2.2.2 c6).2.2.2.2, (MR.putI (MR.putA (MR.putA (MR.putA (MR.putI mr3 (k := 64) (z := (M3 0 64) - 1) (by decide)) (k := 52) (j := (160 * (M3 0 9)) + x1) (z := 1) (by decide)) (k := 66) (j := M3 0 68) (z := 1) (by decide)) (k := 67) (j := M3 0 68) (z := x1) (by decide)) (k := 68) (z := (M3 0 68) + 1) (by decide)), (MF.putI (MF.putA (MF.putA (MF.putA (MF.putI mf3 (k := 64) (z := (M3 0 64) - 1)) (k := 52) (j := (160 * (M3 0 9)) + x1) (z := 1) (by decide)) (k := 66) (j := M3 0 68) (z := 1) (by decide)) (k := 67) (j := M3 0 68) (z := x1) (by decide)) (k := 68) (z := (M3 0 68) + 1))⟩
      · refine X_iconst dX12_starts_160 (by decide) ?_
        refine X_goto dX12_starts_161 (tgt := 165) rfl ?_
        refine X_iastore dX12_starts_165 ((MR.ar (MR.putI mr3 (k := 64) (z := (M3 0 64) - 1) (by decide)) (k := 52) (by decide)).2.1.trans (by decide)) (hc4.2.2.2.2.2.2.2 c5).1 (lt_eq (hc4.2.2.2.2.2.2.2 c5).2.1 (MR.ln (MR.putI mr3 (k := 64) (z := (M3 0 64) - 1) (by decide)) (k := 52) (by decide) (by decide))) ?_
        refine X_aload_n dX12_starts_166 rfl ?_
        refine X_getfield (ci := 12) (k := 65) (v := vi (M3 0 65)) dX12_starts_167 rfl (by decide) kf_RX12_401 (congrArg vi (MR.in_ (MR.putA (MR.putI mr3 (k := 64) (z := (M3 0 64) - 1) (by decide)) (k := 52) (j := (160 * (M3 0 9)) + x1) (z := 2) (by decide)) (k := 65) (by decide) ((up_ne (Or.inl (by decide))).trans (up_ne (Or.inr (by decide)))))) (MR.putA (MR.putI mr3 (k := 64) (z := (M3 0 64) - 1) (by decide)) (k := 52) (j := (160 * (M3 0 9)) + x1) (z := 2) (by decide)).1 ?_
        refine X_if_eq dX12_starts_170 (tgt := 203) rfl (fun c7 => ?_) (fun c7 => ?_)
        · exact X_ret (z := 0) dX12_starts_203 rfl (fun _ => trivial) ⟨rfl, _, ((hc4.2.2.2.2.2.2.2 c5).2.2.1 c7), (MR.putA (MR.putI mr3 (k := 64) (z := (M3 0 64) - 1) (by decide)) (k := 52) (j := (160 * (M3 0 9)) + x1) (z := 2) (by decide)), (MF.putA (MF.putI mf3 (k := 64) (z := (M3 0 64) - 1)) (k := 52) (j := (160 * (M3 0 9)) + x1) (z := 2) (by decide))⟩
        · refine X_aload_n dX12_starts_173 rfl ?_
          refine X_getfield (ci := 12) (k := 66) (v := vr (a 66)) dX12_starts_174 rfl (by decide) kf_RX12_152 (congrArg vr (MR.ar (MR.putA (MR.putI mr3 (k := 64) (z := (M3 0 64) - 1) (by decide)) (k := 52) (j := (160 * (M3 0 9)) + x1) (z := 2) (by decide)) (k := 66) (by decide)).1) (MR.putA (MR.putI mr3 (k := 64) (z := (M3 0 64) - 1) (by decide)) (k := 52) (j := (160 * (M3 0 9)) + x1) (z := 2) (by decide)).1 ?_
          refine X_aload_n dX12_starts_177 rfl ?_
          refine X_getfield (ci := 12) (k := 68) (v := vi (M3 0 68)) dX12_starts_178 rfl (by decide) kf_RX12_404 (congrArg vi (MR.in_ (MR.putA (MR.putI mr3 (k := 64) (z := (M3 0 64) - 1) (by decide)) (k := 52) (j := (160 * (M3 0 9)) + x1) (z := 2) (by decide)) (k := 68) (by decide) ((up_ne (Or.inl (by decide))).trans (up_ne (Or.inr (by decide)))))) (MR.putA (MR.putI mr3 (k := 64) (z := (M3 0 64) - 1) (by decide)) (k := 52) (j := (160 * (M3 0 9)) + x1) (z := 2) (by decide)).1 ?_
          refine X_iconst dX12_starts_181 (by decide) ?_
          refine X_iastore dX12_starts_182 ((MR.ar (MR.putA (MR.putI mr3 (k := 64) (z := (M3 0 64) - 1) (by decide)) (k := 52) (j := (160 * (M3 0 9)) + x1) (z := 2) (by decide)) (k := 66) (by decide)).2.1.trans (by decide)) ((hc4.2.2.2.2.2.2.2 c5).2.2.2 c7).1 (lt_eq ((hc4.2.2.2.2.2.2.2 c5).2.2.2 c7).2.1 (MR.ln (MR.putA (MR.putI mr3 (k := 64) (z := (M3 0 64) - 1) (by decide)) (k := 52) (j := (160 * (M3 0 9)) + x1) (z := 2) (by decide)) (k := 66) (by decide) (by decide))) ?_
          refine X_aload_n dX12_starts_183 rfl ?_
          refine X_getfield (ci := 12) (k := 67) (v := vr (a 67)) dX12_starts_184 rfl (by decide) kf_RX12_155 (congrArg vr (MR.ar (MR.putA (MR.putA (MR.putI mr3 (k := 64) (z := (M3 0 64) - 1) (by decide)) (k := 52) (j := (160 * (M3 0 9)) + x1) (z := 2) (by decide)) (k := 66) (j := M3 0 68) (z := 1) (by decide)) (k := 67) (by decide)).1) (MR.putA (MR.putA (MR.putI mr3 (k := 64) (z := (M3 0 64) - 1) (by decide)) (k := 52) (j := (160 * (M3 0 9)) + x1) (z := 2) (by decide)) (k := 66) (j := M3 0 68) (z := 1) (by decide)).1 ?_
          refine X_aload_n dX12_starts_187 rfl ?_
          refine X_getfield (ci := 12) (k := 68) (v := vi (M3 0 68)) dX12_starts_188 rfl (by decide) kf_RX12_404 (congrArg vi (MR.in_ (MR.putA (MR.putA (MR.putI mr3 (k := 64) (z := (M3 0 64) - 1) (by decide)) (k := 52) (j := (160 * (M3 0 9)) + x1) (z := 2) (by decide)) (k := 66) (j := M3 0 68) (z := 1) (by decide)) (k := 68) (by decide) ((up_ne (Or.inl (by decide))).trans ((up_ne (Or.inl (by decide))).trans (up_ne (Or.inr (by decide))))))) (MR.putA (MR.putA (MR.putI mr3 (k := 64) (z := (M3 0 64) - 1) (by decide)) (k := 52) (j := (160 * (M3 0 9)) + x1) (z := 2) (by decide)) (k := 66) (j := M3 0 68) (z := 1) (by decide)).1 ?_
          refine X_iload_n dX12_starts_191 rfl ?_
          refine X_iastore dX12_starts_192 ((MR.ar (MR.putA (MR.putA (MR.putI mr3 (k := 64) (z := (M3 0 64) - 1) (by decide)) (k := 52) (j := (160 * (M3 0 9)) + x1) (z := 2) (by decide)) (k := 66) (j := M3 0 68) (z := 1) (by decide)) (k := 67) (by decide)).2.1.trans (by decide)) ((hc4.2.2.2.2.2.2.2 c5).2.2.2 c7).1 (lt_eq ((hc4.2.2.2.2.2.2.2 c5).2.2.2 c7).2.1 (MR.ln (MR.putA (MR.putA (MR.putI mr3 (k := 64) (z := (M3 0 64) - 1) (by decide)) (k := 52) (j := (160 * (M3 0 9)) + x1) (z := 2) (by decide)) (k := 66) (j := M3 0 68) (z := 1) (by decide)) (k := 67) (by decide) (by decide))) ?_
          refine X_aload_n dX12_starts_193 rfl ?_
          refine X_dup dX12_starts_194 (rv_cat _) ?_
          refine X_getfield (ci := 12) (k := 68) (v := vi (M3 0 68)) dX12_starts_195 rfl (by decide) kf_RX12_404 (congrArg vi (MR.in_ (MR.putA (MR.putA (MR.putA (MR.putI mr3 (k := 64) (z := (M3 0 64) - 1) (by decide)) (k := 52) (j := (160 * (M3 0 9)) + x1) (z := 2) (by decide)) (k := 66) (j := M3 0 68) (z := 1) (by decide)) (k := 67) (j := M3 0 68) (z := x1) (by decide)) (k := 68) (by decide) ((up_ne (Or.inl (by decide))).trans ((up_ne (Or.inl (by decide))).trans ((up_ne (Or.inl (by decide))).trans (up_ne (Or.inr (by decide)))))))) (MR.putA (MR.putA (MR.putA (MR.putI mr3 (k := 64) (z := (M3 0 64) - 1) (by decide)) (k := 52) (j := (160 * (M3 0 9)) + x1) (z := 2) (by decide)) (k := 66) (j := M3 0 68) (z := 1) (by decide)) (k := 67) (j := M3 0 68) (z := x1) (by decide)).1 ?_
          refine X_iconst dX12_starts_198 (by decide) ?_
          refine X_iaddN dX12_starts_199 ((hc4.2.2.2.2.2.2.2 c5).2.2.2 c7).2.2.1 ((hc4.2.2.2.2.2.2.2 c5).2.2.2 c7).2.2.2.1 ?_
          refine X_putfield (ci := 12) (k := 68) (z := ((M3 0 68) + 1)) dX12_starts_200 rfl (by decide) kf_RX12_404 (Or.inl rfl) (Or.inl rfl) rfl (fun hv => hv) (MR.putA (MR.putA (MR.putA (MR.putI mr3 (k := 64) (z := (M3 0 64) - 1) (by decide)) (k := 52) (j := (160 * (M3 0 9)) + x1) (z := 2) (by decide)) (k := 66) (j := M3 0 68) (z := 1) (by decide)) (k := 67) (j := M3 0 68) (z := x1) (by decide)).1 ?_
          exact X_ret (z := 0) dX12_starts_203 rfl (fun _ => trivial) ⟨rfl, _, ((hc4.2.2.2.2.2.2.2 c5).2.2.2 c7).2.2.2.2, (MR.putI (MR.putA (MR.putA (MR.putA (MR.putI mr3 (k := 64) (z := (M3 0 64) - 1) (by decide)) (k := 52) (j := (160 * (M3 0 9)) + x1) (z := 2) (by decide)) (k := 66) (j := M3 0 68) (z := 1) (by decide)) (k := 67) (j := M3 0 68) (z := x1) (by decide)) (k := 68) (z := (M3 0 68) + 1) (by decide)), (MF.putI (MF.putA (MF.putA (MF.putA (MF.putI mf3 (k := 64) (z := (M3 0 64) - 1)) (k := 52) (j := (160 * (M3 0 9)) + x1) (z := 2) (by decide)) (k := 66) (j := M3 0 68) (z := 1) (by decide)) (k := 67) (j := M3 0 68) (z := x1) (by decide)) (k := 68) (z := (M3 0 68) + 1))⟩
    · refine X_aload_n dX12_starts_97 rfl ?_
      refine X_bipush dX12_starts_98 (by decide) (by decide) ?_
      refine X_aload_n dX12_starts_100 rfl ?_
      refine X_getfield (ci := 12) (k := 9) (v := vi (M 0 9)) dX12_starts_101 rfl (by decide) kf_RX12_263 (congrArg vi (MR.in_ (MR.putI (MR.putA (MR.putA (MR.putA (MR.putA mr (k := 52) (j := (160 * (M 0 9)) + x1) (z := 3) (by decide)) (k := 58) (j := (160 * (M 0 9)) + (M 59 (M 0 9))) (z := x1) (by decide)) (k := 59) (j := M 0 9) (z := (M 59 (M 0 9)) + 1) (by decide)) (k := 63) (j := M 0 64) (z := x1) (by decide)) (k := 64) (z := (M 0 64) + 1) (by decide)) (k := 9) (by decide) ((up_ne (Or.inr (by decide))).trans ((up_ne (Or.inl (by decide))).trans ((up_ne (Or.inl (by decide))).trans ((up_ne (Or.inl (by decide))).trans (up_ne (Or.inl (by decide))))))))) (MR.putI (MR.putA (MR.putA (MR.putA (MR.putA mr (k := 52) (j := (160 * (M 0 9)) + x1) (z := 3) (by decide)) (k := 58) (j := (160 * (M 0 9)) + (M 59 (M 0 9))) (z := x1) (by decide)) (k := 59) (j := M 0 9) (z := (M 59 (M 0 9)) + 1) (by decide)) (k := 63) (j := M 0 64) (z := x1) (by decide)) (k := 64) (z := (M 0 64) + 1) (by decide)).1 ?_
      refine X_imulN dX12_starts_104 ((hB.1 c1).2.2.2.2.2.2.2.2.2.2.2.2.2.2.2.2.2.2.2 c2).1 ((hB.1 c1).2.2.2.2.2.2.2.2.2.2.2.2.2.2.2.2.2.2.2 c2).2.1 ?_
      refine X_iload_n dX12_starts_105 rfl ?_
      refine X_iaddN dX12_starts_106 ((hB.1 c1).2.2.2.2.2.2.2.2.2.2.2.2.2.2.2.2.2.2.2 c2).2.2.1 ((hB.1 c1).2.2.2.2.2.2.2.2.2.2.2.2.2.2.2.2.2.2.2 c2).2.2.2.1 ?_
      refine X_invV (ci := 12) (as := [vi ((12 * (M 0 9)) + x1)]) (st := []) okX12_startsEnum dX12_starts_107 km_RX12_416 rfl rfl (Nat.le_of_ble_eq_true rfl) rfl rfl (MR.putI (MR.putA (MR.putA (MR.putA (MR.putA mr (k := 52) (j := (160 * (M 0 9)) + x1) (z := 3) (by decide)) (k := 58) (j := (160 * (M 0 9)) + (M 59 (M 0 9))) (z := x1) (by decide)) (k := 59) (j := M 0 9) (z := (M 59 (M 0 9)) + 1) (by decide)) (k := 63) (j := M 0 64) (z := x1) (by decide)) (k := 64) (z := (M 0 64) + 1) (by decide)).1 (CT.of d 0 0 (hcl n_startsEnum_0 rfl [(12 * (M 0 9)) + x1] _ _ _ ((hB.1 c1).2.2.2.2.2.2.2.2.2.2.2.2.2.2.2.2.2.2.2 c2).2.2.2.2 (MR.putI (MR.putA (MR.putA (MR.putA (MR.putA mr (k := 52) (j := (160 * (M 0 9)) + x1) (z := 3) (by decide)) (k := 58) (j := (160 * (M 0 9)) + (M 59 (M 0 9))) (z := x1) (by decide)) (k := 59) (j := M 0 9) (z := (M 59 (M 0 9)) + 1) (by decide)) (k := 63) (j := M 0 64) (z := x1) (by decide)) (k := 64) (z := (M 0 64) + 1) (by decide))) (Nat.le_refl _) (Nat.zero_le _) (Nat.zero_le _) (fun z8 S8 V8 hq8 => ?_))
      obtain ⟨rfl, M8, hc9, mr8, hf8⟩ := hq8
      have mf8 := MF.trans (MF.putI (MF.putA (MF.putA (MF.putA (MF.putA mf (k := 52) (j := (160 * (M 0 9)) + x1) (z := 3) (by decide)) (k := 58) (j := (160 * (M 0 9)) + (M 59 (M 0 9))) (z := x1) (by decide)) (k := 59) (j := M 0 9) (z := (M 59 (M 0 9)) + 1) (by decide)) (k := 63) (j := M 0 64) (z := x1) (by decide)) (k := 64) (z := (M 0 64) + 1)) hf8
      refine X_goto dX12_starts_110 (tgt := 129) rfl ?_
      refine X_aload_n dX12_starts_129 rfl ?_
      refine X_dup dX12_starts_130 (rv_cat _) ?_
      refine X_getfield (ci := 12) (k := 64) (v := vi (M8 0 64)) dX12_starts_131 rfl (by decide) kf_RX12_413 (congrArg vi (MR.in_ mr8 (k := 64) (by decide) rfl)) mr8.1 ?_
      refine X_iconst dX12_starts_134 (by decide) ?_
      refine X_isubN dX12_starts_135 hc9.1 hc9.2.1 ?_
      refine X_putfield (ci := 12) (k := 64) (z := ((M8 0 64) - 1)) dX12_starts_136 rfl (by decide) kf_RX12_413 (Or.inl rfl) (Or.inl rfl) rfl (fun hv => hv) mr8.1 ?_
      refine X_aload_n dX12_starts_139 rfl ?_
      refine X_getfield (ci := 12) (k := 52) (v := vr (a 52)) dX12_starts_140 rfl (by decide) kf_RX12_116 (congrArg vr (MR.ar (MR.putI mr8 (k := 64) (z := (M8 0 64) - 1) (by decide)) (k := 52) (by decide)).1) (MR.putI mr8 (k := 64) (z := (M8 0 64) - 1) (by decide)).1 ?_
      refine X_sipush dX12_starts_143 (by decide) (by decide) ?_
      refine X_aload_n dX12_starts_146 rfl ?_
      refine X_getfield (ci := 12) (k := 9) (v := vi (M8 0 9)) dX12_starts_147 rfl (by decide) kf_RX12_263 (congrArg vi (MR.in_ (MR.putI mr8 (k := 64) (z := (M8 0 64) - 1) (by decide)) (k := 9) (by decide) (up_ne (Or.inr (by decide))))) (MR.putI mr8 (k := 64) (z := (M8 0 64) - 1) (by decide)).1 ?_
      refine X_imulN dX12_starts_150 hc9.2.2.1 hc9.2.2.2.1 ?_
      refine X_iload_n dX12_starts_151 rfl ?_
      refine X_iaddN dX12_starts_152 hc9.2.2.2.2.1 hc9.2.2.2.2.2.1 ?_
      refine X_aload_n dX12_starts_153 rfl ?_
      refine X_getfield (ci := 12) (k := 65) (v := vi (M8 0 65)) dX12_starts_154 rfl (by decide) kf_RX12_401 (congrArg vi (MR.in_ (MR.putI mr8 (k := 64) (z := (M8 0 64) - 1) (by decide)) (k := 65) (by decide) (up_ne (Or.inr (by decide))))) (MR.putI mr8 (k := 64) (z := (M8 0 64) - 1) (by decide)).1 ?_
      refine X_if_eq dX12_starts_157 (tgt := 164) rfl (fun c10 => ?_) (fun c10 => ?_)
      · refine X_iconst dX12_starts_164 (by decide) ?_
        refine X_iastore dX12_starts_165 ((MR.ar (MR.putI mr8 (k := 64) (z := (M8 0 64) - 1) (by decide)) (k := 52) (by decide)).2.1.trans (by decide)) (hc9.2.2.2.2.2.2.1 c10).1 (lt_eq (hc9.2.2.2.2.2.2.1 c10).2.1 (MR.ln (MR.putI mr8 (k := 64) (z := (M8 0 64) - 1) (by decide)) (k := 52) (by decide) (by decide))) ?_
        refine X_aload_n dX12_starts_166 rfl ?_
        refine X_getfield (ci := 12) (k := 65) (v := vi (M8 0 65)) dX12_starts_167 rfl (by decide) kf_RX12_401 (congrArg vi (MR.in_ (MR.putA (MR.putI mr8 (k := 64) (z := (M8 0 64) - 1) (by decide)) (k := 52) (j := (160 * (M8 0 9)) + x1) (z := 1) (by decide)) (k := 65) (by decide) ((up_ne (Or.inl (by decide))).trans (up_ne (Or.inr (by decide)))))) (MR.putA (MR.putI mr8 (k := 64) (z := (M8 0 64) - 1) (by decide)) (k := 52) (j := (160 * (M8 0 9)) + x1) (z := 1) (by decide)).1 ?_
        refine X_if_eq dX12_starts_170 (tgt := 203) rfl (fun c11 => ?_) (fun c11 => ?_)
        · exact X_ret (z := 0) dX12_starts_203 rfl (fun _ => trivial) ⟨rfl, _, ((hc9.2.2.2.2.2.2.1 c10).2.2.1 c11), (MR.putA (MR.putI mr8 (k := 64) (z := (M8 0 64) - 1) (by decide)) (k := 52) (j := (160 * (M8 0 9)) + x1) (z := 1) (by decide)), (MF.putA (MF.putI mf8 (k := 64) (z := (M8 0 64) - 1)) (k := 52) (j := (160 * (M8 0 9)) + x1) (z := 1) (by decide))⟩
        · refine X_aload_n dX12_starts_173 rfl ?_
          refine X_getfield (ci := 12) (k := 66) (v := vr (a 66)) dX12_starts_174 rfl (by decide) kf_RX12_152 (congrArg vr (MR.ar (MR.putA (MR.putI mr8 (k := 64) (z := (M8 0 64) - 1) (by decide)) (k := 52) (j := (160 * (M8 0 9)) + x1) (z := 1) (by decide)) (k := 66) (by decide)).1) (MR.putA (MR.putI mr8 (k := 64) (z := (M8 0 64) - 1) (by decide)) (k := 52) (j := (160 * (M8 0 9)) + x1) (z := 1) (by decide)).1 ?_
          refine X_aload_n dX12_starts_177 rfl ?_
          refine X_getfield (ci := 12) (k := 68) (v := vi (M8 0 68)) dX12_starts_178 rfl (by decide) kf_RX12_404 (congrArg vi (MR.in_ (MR.putA (MR.putI mr8 (k := 64) (z := (M8 0 64) - 1) (by decide)) (k := 52) (j := (160 * (M8 0 9)) + x1) (z := 1) (by decide)) (k := 68) (by decide) ((up_ne (Or.inl (by decide))).trans (up_ne (Or.inr (by decide)))))) (MR.putA (MR.putI mr8 (k := 64) (z := (M8 0 64) - 1) (by decide)) (k := 52) (j := (160 * (M8 0 9)) + x1) (z := 1) (by decide)).1 ?_
          refine X_iconst dX12_starts_181 (by decide) ?_
          refine X_iastore dX12_starts_182 ((MR.ar (MR.putA (MR.putI mr8 (k := 64) (z := (M8 0 64) - 1) (by decide)) (k := 52) (j := (160 * (M8 0 9)) + x1) (z := 1) (by decide)) (k := 66) (by decide)).2.1.trans (by decide)) ((hc9.2.2.2.2.2.2.1 c10).2.2.2 c11).1 (lt_eq ((hc9.2.2.2.2.2.2.1 c10).2.2.2 c11).2.1 (MR.ln (MR.putA (MR.putI mr8 (k := 64) (z := (M8 0 64) - 1) (by decide)) (k := 52) (j := (160 * (M8 0 9)) + x1) (z := 1) (by decide)) (k := 66) (by decide) (by decide))) ?_
          refine X_aload_n dX12_starts_183 rfl ?_
          refine X_getfield (ci := 12) (k := 67) (v := vr (a 67)) dX12_starts_184 rfl (by decide) kf_RX12_155 (congrArg vr (MR.ar (MR.putA (MR.putA (MR.putI mr8 (k := 64) (z := (M8 0 64) - 1) (by decide)) (k := 52) (j := (160 * (M8 0 9)) + x1) (z := 1) (by decide)) (k := 66) (j := M8 0 68) (z := 1) (by decide)) (k := 67) (by decide)).1) (MR.putA (MR.putA (MR.putI mr8 (k := 64) (z := (M8 0 64) - 1) (by decide)) (k := 52) (j := (160 * (M8 0 9)) + x1) (z := 1) (by decide)) (k := 66) (j := M8 0 68) (z := 1) (by decide)).1 ?_
          refine X_aload_n dX12_starts_187 rfl ?_
          refine X_getfield (ci := 12) (k := 68) (v := vi (M8 0 68)) dX12_starts_188 rfl (by decide) kf_RX12_404 (congrArg vi (MR.in_ (MR.putA (MR.putA (MR.putI mr8 (k := 64) (z := (M8 0 64) - 1) (by decide)) (k := 52) (j := (160 * (M8 0 9)) + x1) (z := 1) (by decide)) (k := 66) (j := M8 0 68) (z := 1) (by decide)) (k := 68) (by decide) ((up_ne (Or.inl (by decide))).trans ((up_ne (Or.inl (by decide))).trans (up_ne (Or.inr (by decide))))))) (MR.putA (MR.putA (MR.putI mr8 (k := 64) (z := (M8 0 64) - 1) (by decide)) (k := 52) (j := (160 * (M8 0 9)) + x1) (z := 1) (by decide)) (k := 66) (j := M8 0 68) (z := 1) (by decide)).1 ?_
          refine X_iload_n dX12_starts_191 rfl ?_
          refine X_iastore dX12_starts_192 ((MR.ar (MR.putA (MR.putA (MR.putI mr8 (k := 64) (z := (M8 0 64) - 1) (by decide)) (k := 52) (j := (160 * (M8 0 9)) + x1) (z := 1) (by decide)) (k := 66) (j := M8 0 68) (z := 1) (by decide)) (k := 67) (by decide)).2.1.trans (by decide)) ((hc9.2.2.2.2.2.2.1 c10).2.2.2 c11).1 (lt_eq ((hc9.2.2.2.2.2.2.1 c10).2.2.2 c11).2.1 (MR.ln (MR.putA (MR.putA (MR.putI mr8 (k := 64) (z := (M8 0 64) - 1) (by decide)) (k := 52) (j := (160 * (M8 0 9)) + x1) (z := 1) (by decide)) (k := 66) (j := M8 0 68) (z := 1) (by decide)) (k := 67) (by decide) (by decide))) ?_
          refine X_aload_n dX12_starts_193 rfl ?_
          refine X_dup dX12_starts_194 (rv_cat _) ?_
          refine X_getfield (ci := 12) (k := 68) (v := vi (M8 0 68)) dX12_starts_195 rfl (by decide) kf_RX12_404 (congrArg vi (MR.in_ (MR.putA (MR.putA (MR.putA (MR.putI mr8 (k := 64) (z := (M8 0 64) - 1) (by decide)) (k := 52) (j := (160 * (M8 0 9)) + x1) (z := 1) (by decide)) (k := 66) (j := M8 0 68) (z := 1) (by decide)) (k := 67) (j := M8 0 68) (z := x1) (by decide)) (k := 68) (by decide) ((up_ne (Or.inl (by decide))).trans ((up_ne (Or.inl (by decide))).trans ((up_ne (Or.inl (by decide))).trans (up_ne (Or.inr (by decide)))))))) (MR.putA (MR.putA (MR.putA (MR.putI mr8 (k := 64) (z := (M8 0 64) - 1) (by decide)) (k := 52) (j := (160 * (M8 0 9)) + x1) (z := 1) (by decide)) (k := 66) (j := M8 0 68) (z := 1) (by decide)) (k := 67) (j := M8 0 68) (z := x1) (by decide)).1 ?_
          refine X_iconst dX12_starts_198 (by decide) ?_
          refine X_iaddN dX12_starts_199 ((hc9.2.2.2.2.2.2.1 c10).2.2.2 c11).2.2.1 ((hc9.2.2.2.2.2.2.1 c10).2.2.2 c11).2.2.2.1 ?_
          refine X_putfield (ci := 12) (k := 68) (z := ((M8 0 68) + 1)) dX12_starts_200 rfl (by decide) kf_RX12_404 (Or.inl rfl) (Or.inl rfl) rfl (fun hv => hv) (MR.putA (MR.putA (MR.putA (MR.putI mr8 (k := 64) (z := (M8 0 64) - 1) (by decide)) (k := 52) (j := (160 * (M8 0 9)) + x1) (z := 1) (by decide)) (k := 66) (j := M8 0 68) (z := 1) (by decide)) (k := 67) (j := M8 0 68) (z := x1) (by decide)).1 ?_
          exact X_ret (z := 0) dX12_starts_203 rfl (fun _ => trivial) ⟨rfl, _, ((hc9.2.2.2.2.2.2.1 c10).2.2.2 c11).2.2.2.2, (MR.putI (MR.putA (MR.putA (MR.putA (MR.putI mr8 (k := 64) (z := (M8 0 64) - 1) (by decide)) (k := 52) (j := (160 * (M8 0 9)) + x1) (z := 1) (by decide)) (k := 66) (j := M8 0 68) (z := 1) (by decide)) (k := 67) (j := M8 0 68) (z := x1) (by decide)) (k := 68) (z := (M8 0 68) + 1) (by decide)), (MF.putI (MF.putA (MF.putA (MF.putA (MF.putI mf8 (k := 64) (z := (M8 0 64) - 1)) (k := 52) (j := (160 * (M8 0 9)) + x1) (z := 1) (by decide)) (k := 66) (j := M8 0 68) (z := 1) (by decide)) (k := 67) (j := M8 0 68) (z := x1) (by decide)) (k := 68) (z := (M8 0 68) + 1))⟩
      · refine X_iconst dX12_starts_160 (by decide) ?_
        refine X_goto dX12_starts_161 (tgt := 165) rfl ?_
        refine X_iastore dX12_starts_165 ((MR.ar (MR.putI mr8 (k := 64) (z := (M8 0 64) - 1) (by decide)) (k := 52) (by decide)).2.1.trans (by decide)) (hc9.2.2.2.2.2.2.2 c10).1 (lt_eq (hc9.2.2.2.2.2.2.2 c10).2.1 (MR.ln (MR.putI mr8 (k := 64) (z := (M8 0 64) - 1) (by decide)) (k := 52) (by decide) (by decide))) ?_
        refine X_aload_n dX12_starts_166 rfl ?_
        refine X_getfield (ci := 12) (k := 65) (v := vi (M8 0 65)) dX12_starts_167 rfl (by decide) kf_RX12_401 (congrArg vi (MR.in_ (MR.putA (MR.putI mr8 (k := 64) (z := (M8 0 64) - 1) (by decide)) (k := 52) (j := (160 * (M8 0 9)) + x1) (z := 2) (by decide)) (k := 65) (by decide) ((up_ne (Or.inl (by decide))).trans (up_ne (Or.inr (by decide)))))) (MR.putA (MR.putI mr8 (k := 64) (z := (M8 0 64) - 1) (by decide)) (k := 52) (j := (160 * (M8 0 9)) + x1) (z := 2) (by decide)).1 ?_
        refine X_if_eq dX12_starts_170 (tgt := 203) rfl (fun c12 => ?_) (fun c12 => ?_)
        · exact X_ret (z := 0) dX12_starts_203 rfl (fun _ => trivial) ⟨rfl, _, ((hc9.2.2.2.2.2.2.2 c10).2.2.1 c12), (MR.putA (MR.putI mr8 (k := 64) (z := (M8 0 64) - 1) (by decide)) (k := 52) (j := (160 * (M8 0 9)) + x1) (z := 2) (by decide)), (MF.putA (MF.putI mf8 (k := 64) (z := (M8 0 64) - 1)) (k := 52) (j := (160 * (M8 0 9)) + x1) (z := 2) (by decide))⟩
        · refine X_aload_n dX12_starts_173 rfl ?_
          refine X_getfield (ci := 12) (k := 66) (v := vr (a 66)) dX12_starts_174 rfl (by decide) kf_RX12_152 (congrArg vr (MR.ar (MR.putA (MR.putI mr8 (k := 64) (z := (M8 0 64) - 1) (by decide)) (k := 52) (j := (160 * (M8 0 9)) + x1) (z := 2) (by decide)) (k := 66) (by decide)).1) (MR.putA (MR.putI mr8 (k := 64) (z := (M8 0 64) - 1) (by decide)) (k := 52) (j := (160 * (M8 0 9)) + x1) (z := 2) (by decide)).1 ?_
          refine X_aload_n dX12_starts_177 rfl ?_
          refine X_getfield (ci := 12) (k := 68) (v := vi (M8 0 68)) dX12_starts_178 rfl (by decide) kf_RX12_404 (congrArg vi (MR.in_ (MR.putA (MR.putI mr8 (k := 64) (z := (M8 0 64) - 1) (by decide)) (k := 52) (j := (160 * (M8 0 9)) + x1) (z := 2) (by decide)) (k := 68) (by decide) ((up_ne (Or.inl (by decide))).trans (up_ne (Or.inr (by decide)))))) (MR.putA (MR.putI mr8 (k := 64) (z := (M8 0 64) - 1) (by decide)) (k := 52) (j := (160 * (M8 0 9)) + x1) (z := 2) (by decide)).1 ?_
          refine X_iconst dX12_starts_181 (by decide) ?_
          refine X_iastore dX12_starts_182 ((MR.ar (MR.putA (MR.putI mr8 (k := 64) (z := (M8 0 64) - 1) (by decide)) (k := 52) (j := (160 * (M8 0 9)) + x1) (z := 2) (by decide)) (k := 66) (by decide)).2.1.trans (by decide)) ((hc9.2.2.2.2.2.2.2 c10).2.2.2 c12).1 (lt_eq ((hc9.2.2.2.2.2.2.2 c10).2.2.2 c12).2.1 (MR.ln (MR.putA (MR.putI mr8 (k := 64) (z := (M8 0 64) - 1) (by decide)) (k := 52) (j := (160 * (M8 0 9)) + x1) (z := 2) (by decide)) (k := 66) (by decide) (by decide))) ?_
          refine X_aload_n dX12_starts_183 rfl ?_
          refine X_getfield (ci := 12) (k := 67) (v := vr (a 67)) dX12_starts_184 rfl (by decide) kf_RX12_155 (congrArg vr (MR.ar (MR.putA (MR.putA (MR.putI mr8 (k := 64) (z := (M8 0 64) - 1) (by decide)) (k := 52) (j := (160 * (M8 0 9)) + x1) (z := 2) (by decide)) (k := 66) (j := M8 0 68) (z := 1) (by decide)) (k := 67) (by decide)).1) (MR.putA (MR.putA (MR.putI mr8 (k := 64) (z := (M8 0 64) - 1) (by decide)) (k := 52) (j := (160 * (M8 0 9)) + x1) (z := 2) (by decide)) (k := 66) (j := M8 0 68) (z := 1) (by decide)).1 ?_
          refine X_aload_n dX12_starts_187 rfl ?_
          refine X_getfield (ci := 12) (k := 68) (v := vi (M8 0 68)) dX12_starts_188 rfl (by decide) kf_RX12_404 (congrArg vi (MR.in_ (MR.putA (MR.putA (MR.putI mr8 (k := 64) (z := (M8 0 64) - 1) (by decide)) (k := 52) (j := (160 * (M8 0 9)) + x1) (z := 2) (by decide)) (k := 66) (j := M8 0 68) (z := 1) (by decide)) (k := 68) (by decide) ((up_ne (Or.inl (by decide))).trans ((up_ne (Or.inl (by decide))).trans (up_ne (Or.inr (by decide))))))) (MR.putA (MR.putA (MR.putI mr8 (k := 64) (z := (M8 0 64) - 1) (by decide)) (k := 52) (j := (160 * (M8 0 9)) + x1) (z := 2) (by decide)) (k := 66) (j := M8 0 68) (z := 1) (by decide)).1 ?_
          refine X_iload_n dX12_starts_191 rfl ?_
          refine X_iastore dX12_starts_192 ((MR.ar (MR.putA (MR.putA (MR.putI mr8 (k := 64) (z := (M8 0 64) - 1) (by decide)) (k := 52) (j := (160 * (M8 0 9)) + x1) (z := 2) (by decide)) (k := 66) (j := M8 0 68) (z := 1) (by decide)) (k := 67) (by decide)).2.1.trans (by decide)) ((hc9.2.2.2.2.2.2.2 c10).2.2.2 c12).1 (lt_eq ((hc9.2.2.2.2.2.2.2 c10).2.2.2 c12).2.1 (MR.ln (MR.putA (MR.putA (MR.putI mr8 (k := 64) (z := (M8 0 64) - 1) (by decide)) (k := 52) (j := (160 * (M8 0 9)) + x1) (z := 2) (by decide)) (k := 66) (j := M8 0 68) (z := 1) (by decide)) (k := 67) (by decide) (by decide))) ?_
          refine X_aload_n dX12_starts_193 rfl ?_
          refine X_dup dX12_starts_194 (rv_cat _) ?_
          refine X_getfield (ci := 12) (k := 68) (v := vi (M8 0 68)) dX12_starts_195 rfl (by decide) kf_RX12_404 (congrArg vi (MR.in_ (MR.putA (MR.putA (MR.putA (MR.putI mr8 (k := 64) (z := (M8 0 64) - 1) (by decide)) (k := 52) (j := (160 * (M8 0 9)) + x1) (z := 2) (by decide)) (k := 66) (j := M8 0 68) (z := 1) (by decide)) (k := 67) (j := M8 0 68) (z := x1) (by decide)) (k := 68) (by decide) ((up_ne (Or.inl (by decide))).trans ((up_ne (Or.inl (by decide))).trans ((up_ne (Or.inl (by decide))).trans (up_ne (Or.inr (by decide)))))))) (MR.putA (MR.putA (MR.putA (MR.putI mr8 (k := 64) (z := (M8 0 64) - 1) (by decide)) (k := 52) (j := (160 * (M8 0 9)) + x1) (z := 2) (by decide)) (k := 66) (j := M8 0 68) (z := 1) (by decide)) (k := 67) (j := M8 0 68) (z := x1) (by decide)).1 ?_
          refine X_iconst dX12_starts_198 (by decide) ?_
          refine X_iaddN dX12_starts_199 ((hc9.2.2.2.2.2.2.2 c10).2.2.2 c12).2.2.1 ((hc9.2.2.2.2.2.2.2 c10).2.2.2 c12).2.2.2.1 ?_
          refine X_putfield (ci := 12) (k := 68) (z := ((M8 0 68) + 1)) dX12_starts_200 rfl (by decide) kf_RX12_404 (Or.inl rfl) (Or.inl rfl) rfl (fun hv => hv) (MR.putA (MR.putA (MR.putA (MR.putI mr8 (k := 64) (z := (M8 0 64) - 1) (by decide)) (k := 52) (j := (160 * (M8 0 9)) + x1) (z := 2) (by decide)) (k := 66) (j := M8 0 68) (z := 1) (by decide)) (k := 67) (j := M8 0 68) (z := x1) (by decide)).1 ?_
          exact X_ret (z := 0) dX12_starts_203 rfl (fun _ => trivial) ⟨rfl, _, ((hc9.2.2.2.2.2.2.2 c10).2.2.2 c12).2.2.2.2, (MR.putI (MR.putA (MR.putA (MR.putA (MR.putI mr8 (k := 64) (z := (M8 0 64) - 1) (by decide)) (k := 52) (j := (160 * (M8 0 9)) + x1) (z := 2) (by decide)) (k := 66) (j := M8 0 68) (z := 1) (by decide)) (k := 67) (j := M8 0 68) (z := x1) (by decide)) (k := 68) (z := (M8 0 68) + 1) (by decide)), (MF.putI (MF.putA (MF.putA (MF.putA (MF.putI mf8 (k := 64) (z := (M8 0 64) - 1)) (k := 52) (j := (160 * (M8 0 9)) + x1) (z := 2) (by decide)) (k := 66) (j := M8 0 68) (z := 1) (by decide)) (k := 67) (j := M8 0 68) (z := x1) (by decide)) (k := 68) (z := (M8 0 68) + 1))⟩
  · refine X_aload_n dX12_starts_9 rfl ?_
    refine X_bipush dX12_starts_10 (by decide) (by decide) ?_
    refine X_iconst dX12_starts_12 (by decide) ?_
    refine X_invV (ci := 12) (as := [vi 6, vi (-1)]) (st := []) okX12_failing dX12_starts_13 km_RX12_407 rfl rfl (Nat.le_of_ble_eq_true rfl) rfl rfl mr.1 (CT.of d 0 0 (hcl n_failing_0 rfl [6, (-1)] _ _ _ (hB.2 c1) mr) (Nat.le_refl _) (Nat.zero_le _) (Nat.zero_le _) (fun z13 S13 V13 hq13 => ?_))
    obtain ⟨rfl, M13, hc14, mr13, hf13⟩ := hq13
    have mf13 := MF.trans mf hf13
    refine X_istore_n dX12_starts_16 (by decide) rfl ?_
    exact X_ret (z := 0) dX12_starts_17 rfl (fun _ => trivial) ⟨rfl, _, hc14, mr13, mf13⟩
def B_startsHolder_0 (rc : MP) (cl : MC) (Q : Int → Mem → Prop) (d : Nat) (x1 : Int) (M : Mem) : Prop := 0 ≤ x1 ∧ x1 < 480 ∧ cl n_value_0 [M 28 x1, (-1), (-1)] M (fun z1 M1 => ((M1 0 65) ≠ 0 → Q 0 M1) ∧ (¬ ((M1 0 65) ≠ 0) → 0 ≤ x1 ∧ x1 < 480 ∧ Q 0 (up M1 57 x1 z1)))
set_option maxRecDepth 10000 in
theorem s_startsHolder_0 {l : Launch} {G : GT} {m : Int} {a : Int → Int} {d mc ms : Nat} {S : Sh} {Q : Int → Mem → Prop} {rc : MP} {cl : MC} {V0 V M : Mem} {x1 : Int} (hrc : RCok l G m a S V0 Q d mc ms rc) (hcl : CLok l G m a S d cl) (mr : MR m a S V M) (mf : MF m a V0 V) (hB : B_startsHolder_0 rc cl Q d x1 M) : XJ l G bX12_startsHolder (Qm m a S V0 Q) (d + 1) 0 [vr m, vi x1, vu] [] S V mc ms := by
  unfold B_startsHolder_0 at hB
  refine X_aload_n dX12_startsHolder_0 rfl ?_
  refine X_aload_n dX12_startsHolder_1 rfl ?_
  refine X_getfield (ci := 12) (k := 28) (v := vr (a 28)) dX12_startsHolder_2 rfl (by decide) kf_RX12_71 (congrArg vr (MR.ar mr (k := 28) (by decide)).1) mr.1 ?_
  refine X_iload_n dX12_startsHolder_5 rfl ?_
  refine X_iaload dX12_startsHolder_6 ((MR.ar mr (k := 28) (by decide)).2.1.trans (by decide)) hB.1 (lt_eq hB.2.1 (MR.ln mr (k := 28) (by decide) (by decide))) ?_
  refine X_top (v := vi (M 28 x1)) (congrArg vi (MR.el mr (k := 28) (by decide) rfl)) ?_
  refine X_iconst dX12_startsHolder_7 (by decide) ?_
  refine X_iconst dX12_startsHolder_8 (by decide) ?_
  refine X_invV (ci := 12) (as := [vi (M 28 x1), vi (-1), vi (-1)]) (st := []) okX12_value dX12_startsHolder_9 km_RX12_422 rfl rfl (Nat.le_of_ble_eq_true rfl) rfl rfl mr.1 (CT.of d 0 0 (hcl n_value_0 rfl [M 28 x1, (-1), (-1)] _ _ _ hB.2.2 mr) (Nat.le_refl _) (Nat.zero_le _) (Nat.zero_le _) (fun z1 S1 V1 hq1 => ?_))
  obtain ⟨rfl, M1, hc2, mr1, hf1⟩ := hq1
  have mf1 := MF.trans mf hf1
  refine X_istore_n dX12_startsHolder_12 (by decide) rfl ?_
  refine X_aload_n dX12_startsHolder_13 rfl ?_
  refine X_getfield (ci := 12) (k := 65) (v := vi (M1 0 65)) dX12_startsHolder_14 rfl (by decide) kf_RX12_401 (congrArg vi (MR.in_ mr1 (k := 65) (by decide) rfl)) mr1.1 ?_
  refine X_if_ne dX12_startsHolder_17 (tgt := 27) rfl (fun c3 => ?_) (fun c3 => ?_)
  · exact X_ret (z := 0) dX12_startsHolder_27 rfl (fun _ => trivial) ⟨rfl, _, (hc2.1 c3), mr1, mf1⟩
  · refine X_aload_n dX12_startsHolder_20 rfl ?_
    refine X_getfield (ci := 12) (k := 57) (v := vr (a 57)) dX12_startsHolder_21 rfl (by decide) kf_RX12_131 (congrArg vr (MR.ar mr1 (k := 57) (by decide)).1) mr1.1 ?_
    refine X_iload_n dX12_startsHolder_24 rfl ?_
    refine X_iload_n dX12_startsHolder_25 rfl ?_
    refine X_iastore dX12_startsHolder_26 ((MR.ar mr1 (k := 57) (by decide)).2.1.trans (by decide)) (hc2.2 c3).1 (lt_eq (hc2.2 c3).2.1 (MR.ln mr1 (k := 57) (by decide) (by decide))) ?_
    exact X_ret (z := 0) dX12_startsHolder_27 rfl (fun _ => trivial) ⟨rfl, _, (hc2.2 c3).2.2, (MR.putA mr1 (k := 57) (j := x1) (z := z1) (by decide)), (MF.putA mf1 (k := 57) (j := x1) (z := z1) (by decide))⟩
def B_startsEnum_0 (rc : MP) (cl : MC) (Q : Int → Mem → Prop) (d : Nat) (x1 : Int) (M : Mem) : Prop := rc n_startsEnum_2 [x1, 0] M
set_option maxRecDepth 10000 in
theorem s_startsEnum_0 {l : Launch} {G : GT} {m : Int} {a : Int → Int} {d mc ms : Nat} {S : Sh} {Q : Int → Mem → Prop} {rc : MP} {cl : MC} {V0 V M : Mem} {x1 : Int} (hrc : RCok l G m a S V0 Q d mc ms rc) (hcl : CLok l G m a S d cl) (mr : MR m a S V M) (mf : MF m a V0 V) (hB : B_startsEnum_0 rc cl Q d x1 M) : XJ l G bX12_startsEnum (Qm m a S V0 Q) (d + 1) 0 [vr m, vi x1, vu, vu, vu] [] S V mc ms := by
  unfold B_startsEnum_0 at hB
  refine X_iconst dX12_startsEnum_0 (by decide) ?_
  refine X_istore_n dX12_startsEnum_1 (by decide) rfl ?_
  exact hrc n_startsEnum_2 [x1, 0] _ _ hB mr mf
def B_startsEnum_2 (rc : MP) (cl : MC) (Q : Int → Mem → Prop) (d : Nat) (x1 x2 : Int) (M : Mem) : Prop := 0 ≤ x1 ∧ x1 < 120 ∧ ((M 14 x1) ≤ x2 → -2147483648 ≤ 4 * x1 ∧ 4 * x1 ≤ 2147483647 ∧ rc n_startsEnum_83 [x1, 4 * x1] M) ∧ (¬ ((M 14 x1) ≤ x2) → -2147483648 ≤ 24 * x1 ∧ 24 * x1 ≤ 2147483647 ∧ -2147483648 ≤ (24 * x1) + x2 ∧ (24 * x1) + x2 ≤ 2147483647 ∧ 0 ≤ ((24 * x1) + x2) ∧ ((24 * x1) + x2) < 2880 ∧ ((M 21 ((24 * x1) + x2)) ≠ (-1) → cl n_value_0 [M 21 ((24 * x1) + x2), (24 * x1) + x2, (-1)] M (fun z3 M3 => ((M3 0 65) = 0 → 0 ≤ ((24 * x1) + x2) ∧ ((24 * x1) + x2) < 2880 ∧ 0 ≤ x1 ∧ x1 < 120 ∧ -2147483648 ≤ (M3 53 x1) + 1 ∧ (M3 53 x1) + 1 ≤ 2147483647 ∧ -2147483648 ≤ x2 + 1 ∧ x2 + 1 ≤ 2147483647 ∧ rc n_startsEnum_2 [x1, x2 + 1] (up (up M3 54 ((24 * x1) + x2) z3) 53 x1 ((M3 53 x1) + 1))) ∧ (¬ ((M3 0 65) = 0) → Q 0 M3))) ∧ (¬ ((M 21 ((24 * x1) + x2)) ≠ (-1)) → ((M 0 65) = 0 → -2147483648 ≤ (M 53 x1) + 1 ∧ (M 53 x1) + 1 ≤ 2147483647 ∧ -2147483648 ≤ x2 + 1 ∧ x2 + 1 ≤ 2147483647 ∧ rc n_startsEnum_2 [x1, x2 + 1] (up (up M 54 ((24 * x1) + x2) 0) 53 x1 ((M 53 x1) + 1))) ∧ (¬ ((M 0 65) = 0) → Q 0 M)))
set_option maxRecDepth 10000 in
theorem s_startsEnum_2 {l : Launch} {G : GT} {m : Int} {a : Int → Int} {d mc ms : Nat} {S : Sh} {Q : Int → Mem → Prop} {rc : MP} {cl : MC} {V0 V M : Mem} {x1 x2 : Int} (hrc : RCok l G m a S V0 Q d mc ms rc) (hcl : CLok l G m a S d cl) (mr : MR m a S V M) (mf : MF m a V0 V) (hB : B_startsEnum_2 rc cl Q d x1 x2 M) : XJ l G bX12_startsEnum (Qm m a S V0 Q) (d + 1) 2 [vr m, vi x1, vi x2, vu, vu] [] S V mc ms := by
  unfold B_startsEnum_2 at hB
  refine X_iload_n dX12_startsEnum_2 rfl ?_
  refine X_aload_n dX12_startsEnum_3 rfl ?_
  refine X_getfield (ci := 12) (k := 14) (v := vr (a 14)) dX12_startsEnum_4 rfl (by decide) kf_RX12_29 (congrArg vr (MR.ar mr (k := 14) (by decide)).1) mr.1 ?_
  refine X_iload_n dX12_startsEnum_7 rfl ?_
  refine X_iaload dX12_startsEnum_8 ((MR.ar mr (k := 14) (by decide)).2.1.trans (by decide)) hB.1 (lt_eq hB.2.1 (MR.ln mr (k := 14) (by decide) (by decide))) ?_
  refine X_top (v := vi (M 14 x1)) (congrArg vi (MR.el mr (k := 14) (by decide) rfl)) ?_
  refine X_icmp_ge dX12_startsEnum_9 (tgt := 79) rfl (fun c1 => ?_) (fun c1 => ?_)
  · refine X_iconst dX12_startsEnum_79 (by decide) ?_
    refine X_iload_n dX12_startsEnum_80 rfl ?_
    refine X_imulN dX12_startsEnum_81 (hB.2.2.1 c1).1 (hB.2.2.1 c1).2.1 ?_
    refine X_istore_n dX12_startsEnum_82 (by decide) rfl ?_
    exact hrc n_startsEnum_83 [x1, 4 * x1] _ _ (hB.2.2.1 c1).2.2 mr mf
  · refine X_bipush dX12_startsEnum_12 (by decide) (by decide) ?_
    refine X_iload_n dX12_startsEnum_14 rfl ?_
    refine X_imulN dX12_startsEnum_15 (hB.2.2.2 c1).1 (hB.2.2.2 c1).2.1 ?_
    refine X_iload_n dX12_startsEnum_16 rfl ?_
    refine X_iaddN dX12_startsEnum_17 (hB.2.2.2 c1).2.2.1 (hB.2.2.2 c1).2.2.2.1 ?_
    refine X_istore_n dX12_startsEnum_18 (by decide) rfl ?_
    refine X_aload_n dX12_startsEnum_19 rfl ?_
    refine X_getfield (ci := 12) (k := 21) (v := vr (a 21)) dX12_startsEnum_20 rfl (by decide) kf_RX12_50 (congrArg vr (MR.ar mr (k := 21) (by decide)).1) mr.1 ?_
    refine X_iload_n dX12_startsEnum_23 rfl ?_
    refine X_iaload dX12_startsEnum_24 ((MR.ar mr (k := 21) (by decide)).2.1.trans (by decide)) (hB.2.2.2 c1).2.2.2.2.1 (lt_eq (hB.2.2.2 c1).2.2.2.2.2.1 (MR.ln mr (k := 21) (by decide) (by decide))) ?_
    refine X_top (v := vi (M 21 ((24 * x1) + x2))) (congrArg vi (MR.el mr (k := 21) (by decide) rfl)) ?_
    refine X_iconst dX12_startsEnum_25 (by decide) ?_
    refine X_icmp_ne dX12_startsEnum_26 (tgt := 33) rfl (fun c2 => ?_) (fun c2 => ?_)
    · refine X_aload_n dX12_startsEnum_33 rfl ?_
      refine X_aload_n dX12_startsEnum_34 rfl ?_
      refine X_getfield (ci := 12) (k := 21) (v := vr (a 21)) dX12_startsEnum_35 rfl (by decide) kf_RX12_50 (congrArg vr (MR.ar mr (k := 21) (by decide)).1) mr.1 ?_
      refine X_iload_n dX12_startsEnum_38 rfl ?_
      refine X_iaload dX12_startsEnum_39 ((MR.ar mr (k := 21) (by decide)).2.1.trans (by decide)) (hB.2.2.2 c1).2.2.2.2.1 (lt_eq (hB.2.2.2 c1).2.2.2.2.2.1 (MR.ln mr (k := 21) (by decide) (by decide))) ?_
      refine X_top (v := vi (M 21 ((24 * x1) + x2))) (congrArg vi (MR.el mr (k := 21) (by decide) rfl)) ?_
      refine X_iload_n dX12_startsEnum_40 rfl ?_
      refine X_iconst dX12_startsEnum_41 (by decide) ?_
      refine X_invV (ci := 12) (as := [vi (M 21 ((24 * x1) + x2)), vi ((24 * x1) + x2), vi (-1)]) (st := []) okX12_value dX12_startsEnum_42 km_RX12_422 rfl rfl (Nat.le_of_ble_eq_true rfl) rfl rfl mr.1 (CT.of d 0 0 (hcl n_value_0 rfl [M 21 ((24 * x1) + x2), (24 * x1) + x2, (-1)] _ _ _ ((hB.2.2.2 c1).2.2.2.2.2.2.1 c2) mr) (Nat.le_refl _) (Nat.zero_le _) (Nat.zero_le _) (fun z3 S3 V3 hq3 => ?_))
      obtain ⟨rfl, M3, hc4, mr3, hf3⟩ := hq3
      have mf3 := MF.trans mf hf3
      refine X_istore dX12_startsEnum_45 (by decide) rfl ?_
      refine X_aload_n dX12_startsEnum_47 rfl ?_
      refine X_getfield (ci := 12) (k := 65) (v := vi (M3 0 65)) dX12_startsEnum_48 rfl (by decide) kf_RX12_401 (congrArg vi (MR.in_ mr3 (k := 65) (by decide) rfl)) mr3.1 ?_
      refine X_if_eq dX12_startsEnum_51 (tgt := 55) rfl (fun c5 => ?_) (fun c5 => ?_)
      · refine X_aload_n dX12_startsEnum_55 rfl ?_
        refine X_getfield (ci := 12) (k := 54) (v := vr (a 54)) dX12_startsEnum_56 rfl (by decide) kf_RX12_122 (congrArg vr (MR.ar mr3 (k := 54) (by decide)).1) mr3.1 ?_
        refine X_iload_n dX12_startsEnum_59 rfl ?_
        refine X_iload dX12_startsEnum_60 rfl ?_
        refine X_iastore dX12_startsEnum_62 ((MR.ar mr3 (k := 54) (by decide)).2.1.trans (by decide)) (hc4.1 c5).1 (lt_eq (hc4.1 c5).2.1 (MR.ln mr3 (k := 54) (by decide) (by decide))) ?_
        refine X_aload_n dX12_startsEnum_63 rfl ?_
        refine X_getfield (ci := 12) (k := 53) (v := vr (a 53)) dX12_startsEnum_64 rfl (by decide) kf_RX12_119 (congrArg vr (MR.ar (MR.putA mr3 (k := 54) (j := (24 * x1) + x2) (z := z3) (by decide)) (k := 53) (by decide)).1) (MR.putA mr3 (k := 54) (j := (24 * x1) + x2) (z := z3) (by decide)).1 ?_
        refine X_iload_n dX12_startsEnum_67 rfl ?_
        refine X_dup2 dX12_startsEnum_68 rfl (rv_cat _) ?_
        refine X_iaload dX12_startsEnum_69 ((MR.ar (MR.putA mr3 (k := 54) (j := (24 * x1) + x2) (z := z3) (by decide)) (k := 53) (by decide)).2.1.trans (by decide)) (hc4.1 c5).2.2.1 (lt_eq (hc4.1 c5).2.2.2.1 (MR.ln (MR.putA mr3 (k := 54) (j := (24 * x1) + x2) (z := z3) (by decide)) (k := 53) (by decide) (by decide))) ?_
        refine X_top (v := vi (M3 53 x1)) (congrArg vi (MR.el (MR.putA mr3 (k := 54) (j := (24 * x1) + x2) (z := z3) (by decide)) (k := 53) (by decide) (up_ne (Or.inl (by decide))))) ?_
        refine X_iconst dX12_startsEnum_70 (by decide) ?_
        refine X_iaddN dX12_startsEnum_71 (hc4.1 c5).2.2.2.2.1 (hc4.1 c5).2.2.2.2.2.1 ?_
        refine X_iastore dX12_startsEnum_72 ((MR.ar (MR.putA mr3 (k := 54) (j := (24 * x1) + x2) (z := z3) (by decide)) (k := 53) (by decide)).2.1.trans (by decide)) (hc4.1 c5).2.2.1 (lt_eq (hc4.1 c5).2.2.2.1 (MR.ln (MR.putA mr3 (k := 54) (j := (24 * x1) + x2) (z := z3) (by decide)) (k := 53) (by decide) (by decide))) ?_
        refine X_iincN dX12_startsEnum_73 rfl (by decide) rfl (e := x2 + 1) rfl (hc4.1 c5).2.2.2.2.2.2.1 (hc4.1 c5).2.2.2.2.2.2.2.1 ?_
        refine X_goto dX12_startsEnum_76 (tgt := 2) rfl ?_
        exact X_weak [false, false, false, true, true] (hrc n_startsEnum_2 [x1, x2 + 1] _ _ (hc4.1 c5).2.2.2.2.2.2.2.2 (MR.putA (MR.putA mr3 (k := 54) (j := (24 * x1) + x2) (z := z3) (by decide)) (k := 53) (j := x1) (z := (M3 53 x1) + 1) (by decide)) (MF.putA (MF.putA mf3 (k := 54) (j := (24 * x1) + x2) (z := z3) (by decide)) (k := 53) (j := x1) (z := (M3 53 x1) + 1) (by decide)))
      · exact X_ret (z := 0) dX12_startsEnum_54 rfl (fun _ => trivial) ⟨rfl, _, (hc4.2 c5), mr3, mf3⟩
    · refine X_iconst dX12_startsEnum_29 (by decide) ?_
      refine X_goto dX12_startsEnum_30 (tgt := 45) rfl ?_
      refine X_istore dX12_startsEnum_45 (by decide) rfl ?_
      refine X_aload_n dX12_startsEnum_47 rfl ?_
      refine X_getfield (ci := 12) (k := 65) (v := vi (M 0 65)) dX12_startsEnum_48 rfl (by decide) kf_RX12_401 (congrArg vi (MR.in_ mr (k := 65) (by decide) rfl)) mr.1 ?_
      refine X_if_eq dX12_startsEnum_51 (tgt := 55) rfl (fun c6 => ?_) (fun c6 => ?_)
      · refine X_aload_n dX12_startsEnum_55 rfl ?_
        refine X_getfield (ci := 12) (k := 54) (v := vr (a 54)) dX12_startsEnum_56 rfl (by decide) kf_RX12_122 (congrArg vr (MR.ar mr (k := 54) (by decide)).1) mr.1 ?_
        refine X_iload_n dX12_startsEnum_59 rfl ?_
        refine X_iload dX12_startsEnum_60 rfl ?_
        refine X_iastore dX12_startsEnum_62 ((MR.ar mr (k := 54) (by decide)).2.1.trans (by decide)) (hB.2.2.2 c1).2.2.2.2.1 (lt_eq (hB.2.2.2 c1).2.2.2.2.2.1 (MR.ln mr (k := 54) (by decide) (by decide))) ?_
        refine X_aload_n dX12_startsEnum_63 rfl ?_
        refine X_getfield (ci := 12) (k := 53) (v := vr (a 53)) dX12_startsEnum_64 rfl (by decide) kf_RX12_119 (congrArg vr (MR.ar (MR.putA mr (k := 54) (j := (24 * x1) + x2) (z := 0) (by decide)) (k := 53) (by decide)).1) (MR.putA mr (k := 54) (j := (24 * x1) + x2) (z := 0) (by decide)).1 ?_
        refine X_iload_n dX12_startsEnum_67 rfl ?_
        refine X_dup2 dX12_startsEnum_68 rfl (rv_cat _) ?_
        refine X_iaload dX12_startsEnum_69 ((MR.ar (MR.putA mr (k := 54) (j := (24 * x1) + x2) (z := 0) (by decide)) (k := 53) (by decide)).2.1.trans (by decide)) hB.1 (lt_eq hB.2.1 (MR.ln (MR.putA mr (k := 54) (j := (24 * x1) + x2) (z := 0) (by decide)) (k := 53) (by decide) (by decide))) ?_
        refine X_top (v := vi (M 53 x1)) (congrArg vi (MR.el (MR.putA mr (k := 54) (j := (24 * x1) + x2) (z := 0) (by decide)) (k := 53) (by decide) (up_ne (Or.inl (by decide))))) ?_
        refine X_iconst dX12_startsEnum_70 (by decide) ?_
        refine X_iaddN dX12_startsEnum_71 (((hB.2.2.2 c1).2.2.2.2.2.2.2 c2).1 c6).1 (((hB.2.2.2 c1).2.2.2.2.2.2.2 c2).1 c6).2.1 ?_
        refine X_iastore dX12_startsEnum_72 ((MR.ar (MR.putA mr (k := 54) (j := (24 * x1) + x2) (z := 0) (by decide)) (k := 53) (by decide)).2.1.trans (by decide)) hB.1 (lt_eq hB.2.1 (MR.ln (MR.putA mr (k := 54) (j := (24 * x1) + x2) (z := 0) (by decide)) (k := 53) (by decide) (by decide))) ?_
        refine X_iincN dX12_startsEnum_73 rfl (by decide) rfl (e := x2 + 1) rfl (((hB.2.2.2 c1).2.2.2.2.2.2.2 c2).1 c6).2.2.1 (((hB.2.2.2 c1).2.2.2.2.2.2.2 c2).1 c6).2.2.2.1 ?_
        refine X_goto dX12_startsEnum_76 (tgt := 2) rfl ?_
        exact X_weak [false, false, false, true, true] (hrc n_startsEnum_2 [x1, x2 + 1] _ _ (((hB.2.2.2 c1).2.2.2.2.2.2.2 c2).1 c6).2.2.2.2 (MR.putA (MR.putA mr (k := 54) (j := (24 * x1) + x2) (z := 0) (by decide)) (k := 53) (j := x1) (z := (M 53 x1) + 1) (by decide)) (MF.putA (MF.putA mf (k := 54) (j := (24 * x1) + x2) (z := 0) (by decide)) (k := 53) (j := x1) (z := (M 53 x1) + 1) (by decide)))
      · exact X_ret (z := 0) dX12_startsEnum_54 rfl (fun _ => trivial) ⟨rfl, _, (((hB.2.2.2 c1).2.2.2.2.2.2.2 c2).2 c6), mr, mf⟩
def B_startsEnum_83 (rc : MP) (cl : MC) (Q : Int → Mem → Prop) (d : Nat) (x1 x2 : Int) (M : Mem) : Prop := -2147483648 ≤ 4 * x1 ∧ 4 * x1 ≤ 2147483647 ∧ 0 ≤ x1 ∧ x1 < 120 ∧ -2147483648 ≤ (4 * x1) + (M 15 x1) ∧ (4 * x1) + (M 15 x1) ≤ 2147483647 ∧ (((4 * x1) + (M 15 x1)) ≤ x2 → rc n_startsEnum_173 [x1, 0] M) ∧ (¬ (((4 * x1) + (M 15 x1)) ≤ x2) → rc n_startsEnum_99 [x1, x2, 0] M)
set_option maxRecDepth 10000 in
theorem s_startsEnum_83 {l : Launch} {G : GT} {m : Int} {a : Int → Int} {d mc ms : Nat} {S : Sh} {Q : Int → Mem → Prop} {rc : MP} {cl : MC} {V0 V M : Mem} {x1 x2 : Int} (hrc : RCok l G m a S V0 Q d mc ms rc) (hcl : CLok l G m a S d cl) (mr : MR m a S V M) (mf : MF m a V0 V) (hB : B_startsEnum_83 rc cl Q d x1 x2 M) : XJ l G bX12_startsEnum (Qm m a S V0 Q) (d + 1) 83 [vr m, vi x1, vi x2, vu, vu] [] S V mc ms := by
  unfold B_startsEnum_83 at hB
  refine X_iload_n dX12_startsEnum_83 rfl ?_
  refine X_iconst dX12_startsEnum_84 (by decide) ?_
  refine X_iload_n dX12_startsEnum_85 rfl ?_
  refine X_imulN dX12_startsEnum_86 hB.1 hB.2.1 ?_
  refine X_aload_n dX12_startsEnum_87 rfl ?_
  refine X_getfield (ci := 12) (k := 15) (v := vr (a 15)) dX12_startsEnum_88 rfl (by decide) kf_RX12_32 (congrArg vr (MR.ar mr (k := 15) (by decide)).1) mr.1 ?_
  refine X_iload_n dX12_startsEnum_91 rfl ?_
  refine X_iaload dX12_startsEnum_92 ((MR.ar mr (k := 15) (by decide)).2.1.trans (by decide)) hB.2.2.1 (lt_eq hB.2.2.2.1 (MR.ln mr (k := 15) (by decide) (by decide))) ?_
  refine X_top (v := vi (M 15 x1)) (congrArg vi (MR.el mr (k := 15) (by decide) rfl)) ?_
  refine X_iaddN dX12_startsEnum_93 hB.2.2.2.2.1 hB.2.2.2.2.2.1 ?_
  refine X_icmp_ge dX12_startsEnum_94 (tgt := 171) rfl (fun c1 => ?_) (fun c1 => ?_)
  · refine X_iconst dX12_startsEnum_171 (by decide) ?_
    refine X_istore_n dX12_startsEnum_172 (by decide) rfl ?_
    exact hrc n_startsEnum_173 [x1, 0] _ _ (hB.2.2.2.2.2.2.1 c1) mr mf
  · refine X_iconst dX12_startsEnum_97 (by decide) ?_
    refine X_istore_n dX12_startsEnum_98 (by decide) rfl ?_
    exact hrc n_startsEnum_99 [x1, x2, 0] _ _ (hB.2.2.2.2.2.2.2 c1) mr mf
def B_startsEnum_99 (rc : MP) (cl : MC) (Q : Int → Mem → Prop) (d : Nat) (x1 x2 x3 : Int) (M : Mem) : Prop := 0 ≤ x2 ∧ x2 < 480 ∧ ((M 24 x2) ≤ x3 → -2147483648 ≤ x2 + 1 ∧ x2 + 1 ≤ 2147483647 ∧ rc n_startsEnum_83 [x1, x2 + 1] M) ∧ (¬ ((M 24 x2) ≤ x3) → -2147483648 ≤ 12 * x2 ∧ 12 * x2 ≤ 2147483647 ∧ -2147483648 ≤ (12 * x2) + x3 ∧ (12 * x2) + x3 ≤ 2147483647 ∧ 0 ≤ ((12 * x2) + x3) ∧ ((12 * x2) + x3) < 5760 ∧ cl n_value_0 [M 25 ((12 * x2) + x3), (-1), (-1)] M (fun z2 M2 => ((M2 0 65) = 0 → -2147483648 ≤ 12 * x2 ∧ 12 * x2 ≤ 2147483647 ∧ -2147483648 ≤ (12 * x2) + x3 ∧ (12 * x2) + x3 ≤ 2147483647 ∧ 0 ≤ ((12 * x2) + x3) ∧ ((12 * x2) + x3) < 5760 ∧ 0 ≤ x2 ∧ x2 < 480 ∧ -2147483648 ≤ (M2 55 x2) + 1 ∧ (M2 55 x2) + 1 ≤ 2147483647 ∧ -2147483648 ≤ x3 + 1 ∧ x3 + 1 ≤ 2147483647 ∧ rc n_startsEnum_99 [x1, x2, x3 + 1] (up (up M2 56 ((12 * x2) + x3) z2) 55 x2 ((M2 55 x2) + 1))) ∧ (¬ ((M2 0 65) = 0) → Q 0 M2)))
set_option maxRecDepth 10000 in
theorem s_startsEnum_99 {l : Launch} {G : GT} {m : Int} {a : Int → Int} {d mc ms : Nat} {S : Sh} {Q : Int → Mem → Prop} {rc : MP} {cl : MC} {V0 V M : Mem} {x1 x2 x3 : Int} (hrc : RCok l G m a S V0 Q d mc ms rc) (hcl : CLok l G m a S d cl) (mr : MR m a S V M) (mf : MF m a V0 V) (hB : B_startsEnum_99 rc cl Q d x1 x2 x3 M) : XJ l G bX12_startsEnum (Qm m a S V0 Q) (d + 1) 99 [vr m, vi x1, vi x2, vi x3, vu] [] S V mc ms := by
  unfold B_startsEnum_99 at hB
  refine X_iload_n dX12_startsEnum_99 rfl ?_
  refine X_aload_n dX12_startsEnum_100 rfl ?_
  refine X_getfield (ci := 12) (k := 24) (v := vr (a 24)) dX12_startsEnum_101 rfl (by decide) kf_RX12_59 (congrArg vr (MR.ar mr (k := 24) (by decide)).1) mr.1 ?_
  refine X_iload_n dX12_startsEnum_104 rfl ?_
  refine X_iaload dX12_startsEnum_105 ((MR.ar mr (k := 24) (by decide)).2.1.trans (by decide)) hB.1 (lt_eq hB.2.1 (MR.ln mr (k := 24) (by decide) (by decide))) ?_
  refine X_top (v := vi (M 24 x2)) (congrArg vi (MR.el mr (k := 24) (by decide) rfl)) ?_
  refine X_icmp_ge dX12_startsEnum_106 (tgt := 165) rfl (fun c1 => ?_) (fun c1 => ?_)
  · refine X_iincN dX12_startsEnum_165 rfl (by decide) rfl (e := x2 + 1) rfl (hB.2.2.1 c1).1 (hB.2.2.1 c1).2.1 ?_
    refine X_goto dX12_startsEnum_168 (tgt := 83) rfl ?_
    exact X_weak [false, false, false, true, false] (hrc n_startsEnum_83 [x1, x2 + 1] _ _ (hB.2.2.1 c1).2.2 mr mf)
  · refine X_aload_n dX12_startsEnum_109 rfl ?_
    refine X_aload_n dX12_startsEnum_110 rfl ?_
    refine X_getfield (ci := 12) (k := 25) (v := vr (a 25)) dX12_startsEnum_111 rfl (by decide) kf_RX12_62 (congrArg vr (MR.ar mr (k := 25) (by decide)).1) mr.1 ?_
    refine X_bipush dX12_startsEnum_114 (by decide) (by decide) ?_
    refine X_iload_n dX12_startsEnum_116 rfl ?_
    refine X_imulN dX12_startsEnum_117 (hB.2.2.2 c1).1 (hB.2.2.2 c1).2.1 ?_
    refine X_iload_n dX12_startsEnum_118 rfl ?_
    refine X_iaddN dX12_startsEnum_119 (hB.2.2.2 c1).2.2.1 (hB.2.2.2 c1).2.2.2.1 ?_
    refine X_iaload dX12_startsEnum_120 ((MR.ar mr (k := 25) (by decide)).2.1.trans (by decide)) (hB.2.2.2 c1).2.2.2.2.1 (lt_eq (hB.2.2.2 c1).2.2.2.2.2.1 (MR.ln mr (k := 25) (by decide) (by decide))) ?_
    refine X_top (v := vi (M 25 ((12 * x2) + x3))) (congrArg vi (MR.el mr (k := 25) (by decide) rfl)) ?_
    refine X_iconst dX12_startsEnum_121 (by decide) ?_
    refine X_iconst dX12_startsEnum_122 (by decide) ?_
    refine X_invV (ci := 12) (as := [vi (M 25 ((12 * x2) + x3)), vi (-1), vi (-1)]) (st := []) okX12_value dX12_startsEnum_123 km_RX12_422 rfl rfl (Nat.le_of_ble_eq_true rfl) rfl rfl mr.1 (CT.of d 0 0 (hcl n_value_0 rfl [M 25 ((12 * x2) + x3), (-1), (-1)] _ _ _ (hB.2.2.2 c1).2.2.2.2.2.2 mr) (Nat.le_refl _) (Nat.zero_le _) (Nat.zero_le _) (fun z2 S2 V2 hq2 => ?_))
    obtain ⟨rfl, M2, hc3, mr2, hf2⟩ := hq2
    have mf2 := MF.trans mf hf2
    refine X_istore dX12_startsEnum_126 (by decide) rfl ?_
    refine X_aload_n dX12_startsEnum_128 rfl ?_
    refine X_getfield (ci := 12) (k := 65) (v := vi (M2 0 65)) dX12_startsEnum_129 rfl (by decide) kf_RX12_401 (congrArg vi (MR.in_ mr2 (k := 65) (by decide) rfl)) mr2.1 ?_
    refine X_if_eq dX12_startsEnum_132 (tgt := 136) rfl (fun c4 => ?_) (fun c4 => ?_)
    · refine X_aload_n dX12_startsEnum_136 rfl ?_
      refine X_getfield (ci := 12) (k := 56) (v := vr (a 56)) dX12_startsEnum_137 rfl (by decide) kf_RX12_128 (congrArg vr (MR.ar mr2 (k := 56) (by decide)).1) mr2.1 ?_
      refine X_bipush dX12_startsEnum_140 (by decide) (by decide) ?_
      refine X_iload_n dX12_startsEnum_142 rfl ?_
      refine X_imulN dX12_startsEnum_143 (hc3.1 c4).1 (hc3.1 c4).2.1 ?_
      refine X_iload_n dX12_startsEnum_144 rfl ?_
      refine X_iaddN dX12_startsEnum_145 (hc3.1 c4).2.2.1 (hc3.1 c4).2.2.2.1 ?_
      refine X_iload dX12_startsEnum_146 rfl ?_
      refine X_iastore dX12_startsEnum_148 ((MR.ar mr2 (k := 56) (by decide)).2.1.trans (by decide)) (hc3.1 c4).2.2.2.2.1 (lt_eq (hc3.1 c4).2.2.2.2.2.1 (MR.ln mr2 (k := 56) (by decide) (by decide))) ?_
      refine X_aload_n dX12_startsEnum_149 rfl ?_
      refine X_getfield (ci := 12) (k := 55) (v := vr (a 55)) dX12_startsEnum_150 rfl (by decide) kf_RX12_125 (congrArg vr (MR.ar (MR.putA mr2 (k := 56) (j := (12 * x2) + x3) (z := z2) (by decide)) (k := 55) (by decide)).1) (MR.putA mr2 (k := 56) (j := (12 * x2) + x3) (z := z2) (by decide)).1 ?_
      refine X_iload_n dX12_startsEnum_153 rfl ?_
      refine X_dup2 dX12_startsEnum_154 rfl (rv_cat _) ?_
      refine X_iaload dX12_startsEnum_155 ((MR.ar (MR.putA mr2 (k := 56) (j := (12 * x2) + x3) (z := z2) (by decide)) (k := 55) (by decide)).2.1.trans (by decide)) (hc3.1 c4).2.2.2.2.2.2.1 (lt_eq (hc3.1 c4).2.2.2.2.2.2.2.1 (MR.ln (MR.putA mr2 (k := 56) (j := (12 * x2) + x3) (z := z2) (by decide)) (k := 55) (by decide) (by decide))) ?_
      refine X_top (v := vi (M2 55 x2)) (congrArg vi (MR.el (MR.putA mr2 (k := 56) (j := (12 * x2) + x3) (z := z2) (by decide)) (k := 55) (by decide) (up_ne (Or.inl (by decide))))) ?_
      refine X_iconst dX12_startsEnum_156 (by decide) ?_
      refine X_iaddN dX12_startsEnum_157 (hc3.1 c4).2.2.2.2.2.2.2.2.1 (hc3.1 c4).2.2.2.2.2.2.2.2.2.1 ?_
      refine X_iastore dX12_startsEnum_158 ((MR.ar (MR.putA mr2 (k := 56) (j := (12 * x2) + x3) (z := z2) (by decide)) (k := 55) (by decide)).2.1.trans (by decide)) (hc3.1 c4).2.2.2.2.2.2.1 (lt_eq (hc3.1 c4).2.2.2.2.2.2.2.1 (MR.ln (MR.putA mr2 (k := 56) (j := (12 * x2) + x3) (z := z2) (by decide)) (k := 55) (by decide) (by decide))) ?_
      refine X_iincN dX12_startsEnum_159 rfl (by decide) rfl (e := x3 + 1) rfl (hc3.1 c4).2.2.2.2.2.2.2.2.2.2.1 (hc3.1 c4).2.2.2.2.2.2.2.2.2.2.2.1 ?_
      refine X_goto dX12_startsEnum_162 (tgt := 99) rfl ?_
      exact X_weak [false, false, false, false, true] (hrc n_startsEnum_99 [x1, x2, x3 + 1] _ _ (hc3.1 c4).2.2.2.2.2.2.2.2.2.2.2.2 (MR.putA (MR.putA mr2 (k := 56) (j := (12 * x2) + x3) (z := z2) (by decide)) (k := 55) (j := x2) (z := (M2 55 x2) + 1) (by decide)) (MF.putA (MF.putA mf2 (k := 56) (j := (12 * x2) + x3) (z := z2) (by decide)) (k := 55) (j := x2) (z := (M2 55 x2) + 1) (by decide)))
    · exact X_ret (z := 0) dX12_startsEnum_135 rfl (fun _ => trivial) ⟨rfl, _, (hc3.2 c4), mr2, mf2⟩
def B_startsEnum_173 (rc : MP) (cl : MC) (Q : Int → Mem → Prop) (d : Nat) (x1 x2 : Int) (M : Mem) : Prop := 0 ≤ x1 ∧ x1 < 120 ∧ ((M 16 x1) ≤ x2 → Q 0 M) ∧ (¬ ((M 16 x1) ≤ x2) → -2147483648 ≤ 3 * x1 ∧ 3 * x1 ≤ 2147483647 ∧ -2147483648 ≤ (3 * x1) + x2 ∧ (3 * x1) + x2 ≤ 2147483647 ∧ 0 ≤ ((3 * x1) + x2) ∧ ((3 * x1) + x2) < 360 ∧ cl n_value_0 [M 26 ((3 * x1) + x2), (-1), (-1)] M (fun z2 M2 => ((M2 0 65) = 0 → (z2 ≠ 0 → -2147483648 ≤ x2 + 1 ∧ x2 + 1 ≤ 2147483647 ∧ rc n_startsEnum_173 [x1, x2 + 1] M2) ∧ (¬ (z2 ≠ 0) → cl n_failing_0 [3, (-1)] M2 (fun z6 M6 => Q 0 M6))) ∧ (¬ ((M2 0 65) = 0) → Q 0 M2)))
set_option maxRecDepth 10000 in
theorem s_startsEnum_173 {l : Launch} {G : GT} {m : Int} {a : Int → Int} {d mc ms : Nat} {S : Sh} {Q : Int → Mem → Prop} {rc : MP} {cl : MC} {V0 V M : Mem} {x1 x2 : Int} (hrc : RCok l G m a S V0 Q d mc ms rc) (hcl : CLok l G m a S d cl) (mr : MR m a S V M) (mf : MF m a V0 V) (hB : B_startsEnum_173 rc cl Q d x1 x2 M) : XJ l G bX12_startsEnum (Qm m a S V0 Q) (d + 1) 173 [vr m, vi x1, vi x2, vu, vu] [] S V mc ms := by
  unfold B_startsEnum_173 at hB
  refine X_iload_n dX12_startsEnum_173 rfl ?_
  refine X_aload_n dX12_startsEnum_174 rfl ?_
  refine X_getfield (ci := 12) (k := 16) (v := vr (a 16)) dX12_startsEnum_175 rfl (by decide) kf_RX12_35 (congrArg vr (MR.ar mr (k := 16) (by decide)).1) mr.1 ?_
  refine X_iload_n dX12_startsEnum_178 rfl ?_
  refine X_iaload dX12_startsEnum_179 ((MR.ar mr (k := 16) (by decide)).2.1.trans (by decide)) hB.1 (lt_eq hB.2.1 (MR.ln mr (k := 16) (by decide) (by decide))) ?_
  refine X_top (v := vi (M 16 x1)) (congrArg vi (MR.el mr (k := 16) (by decide) rfl)) ?_
  refine X_icmp_ge dX12_startsEnum_180 (tgt := 227) rfl (fun c1 => ?_) (fun c1 => ?_)
  · exact X_ret (z := 0) dX12_startsEnum_227 rfl (fun _ => trivial) ⟨rfl, _, (hB.2.2.1 c1), mr, mf⟩
  · refine X_aload_n dX12_startsEnum_183 rfl ?_
    refine X_aload_n dX12_startsEnum_184 rfl ?_
    refine X_getfield (ci := 12) (k := 26) (v := vr (a 26)) dX12_startsEnum_185 rfl (by decide) kf_RX12_65 (congrArg vr (MR.ar mr (k := 26) (by decide)).1) mr.1 ?_
    refine X_iconst dX12_startsEnum_188 (by decide) ?_
    refine X_iload_n dX12_startsEnum_189 rfl ?_
    refine X_imulN dX12_startsEnum_190 (hB.2.2.2 c1).1 (hB.2.2.2 c1).2.1 ?_
    refine X_iload_n dX12_startsEnum_191 rfl ?_
    refine X_iaddN dX12_startsEnum_192 (hB.2.2.2 c1).2.2.1 (hB.2.2.2 c1).2.2.2.1 ?_
    refine X_iaload dX12_startsEnum_193 ((MR.ar mr (k := 26) (by decide)).2.1.trans (by decide)) (hB.2.2.2 c1).2.2.2.2.1 (lt_eq (hB.2.2.2 c1).2.2.2.2.2.1 (MR.ln mr (k := 26) (by decide) (by decide))) ?_
    refine X_top (v := vi (M 26 ((3 * x1) + x2))) (congrArg vi (MR.el mr (k := 26) (by decide) rfl)) ?_
    refine X_iconst dX12_startsEnum_194 (by decide) ?_
    refine X_iconst dX12_startsEnum_195 (by decide) ?_
    refine X_invV (ci := 12) (as := [vi (M 26 ((3 * x1) + x2)), vi (-1), vi (-1)]) (st := []) okX12_value dX12_startsEnum_196 km_RX12_422 rfl rfl (Nat.le_of_ble_eq_true rfl) rfl rfl mr.1 (CT.of d 0 0 (hcl n_value_0 rfl [M 26 ((3 * x1) + x2), (-1), (-1)] _ _ _ (hB.2.2.2 c1).2.2.2.2.2.2 mr) (Nat.le_refl _) (Nat.zero_le _) (Nat.zero_le _) (fun z2 S2 V2 hq2 => ?_))
    obtain ⟨rfl, M2, hc3, mr2, hf2⟩ := hq2
    have mf2 := MF.trans mf hf2
    refine X_istore_n dX12_startsEnum_199 (by decide) rfl ?_
    refine X_aload_n dX12_startsEnum_200 rfl ?_
    refine X_getfield (ci := 12) (k := 65) (v := vi (M2 0 65)) dX12_startsEnum_201 rfl (by decide) kf_RX12_401 (congrArg vi (MR.in_ mr2 (k := 65) (by decide) rfl)) mr2.1 ?_
    refine X_if_eq dX12_startsEnum_204 (tgt := 208) rfl (fun c4 => ?_) (fun c4 => ?_)
    · refine X_iload_n dX12_startsEnum_208 rfl ?_
      refine X_if_ne dX12_startsEnum_209 (tgt := 221) rfl (fun c5 => ?_) (fun c5 => ?_)
      · refine X_iincN dX12_startsEnum_221 rfl (by decide) rfl (e := x2 + 1) rfl ((hc3.1 c4).1 c5).1 ((hc3.1 c4).1 c5).2.1 ?_
        refine X_goto dX12_startsEnum_224 (tgt := 173) rfl ?_
        exact X_weak [false, false, false, true, false] (hrc n_startsEnum_173 [x1, x2 + 1] _ _ ((hc3.1 c4).1 c5).2.2 mr2 mf2)
      · refine X_aload_n dX12_startsEnum_212 rfl ?_
        refine X_iconst dX12_startsEnum_213 (by decide) ?_
        refine X_iconst dX12_startsEnum_214 (by decide) ?_
        refine X_invV (ci := 12) (as := [vi 3, vi (-1)]) (st := []) okX12_failing dX12_startsEnum_215 km_RX12_407 rfl rfl (Nat.le_of_ble_eq_true rfl) rfl rfl mr2.1 (CT.of d 0 0 (hcl n_failing_0 rfl [3, (-1)] _ _ _ ((hc3.1 c4).2 c5) mr2) (Nat.le_refl _) (Nat.zero_le _) (Nat.zero_le _) (fun z6 S6 V6 hq6 => ?_))
        obtain ⟨rfl, M6, hc7, mr6, hf6⟩ := hq6
        have mf6 := MF.trans mf2 hf6
        refine X_istore dX12_startsEnum_218 (by decide) rfl ?_
        exact X_ret (z := 0) dX12_startsEnum_220 rfl (fun _ => trivial) ⟨rfl, _, hc7, mr6, mf6⟩
    · exact X_ret (z := 0) dX12_startsEnum_207 rfl (fun _ => trivial) ⟨rfl, _, (hc3.2 c4), mr2, mf2⟩
def B_sees_0 (rc : MP) (cl : MC) (Q : Int → Mem → Prop) (d : Nat) (x1 x2 : Int) (M : Mem) : Prop := -2147483648 ≤ 3100 * (M 0 9) ∧ 3100 * (M 0 9) ≤ 2147483647 ∧ 0 ≤ (M 0 9) ∧ (M 0 9) < 10 ∧ -2147483648 ≤ (3100 * (M 0 9)) + (M 62 (M 0 9)) ∧ (3100 * (M 0 9)) + (M 62 (M 0 9)) ≤ 2147483647 ∧ ((M 0 64) ≠ 0 → -2147483648 ≤ (M 0 64) - 1 ∧ (M 0 64) - 1 ≤ 2147483647 ∧ 0 ≤ ((M 0 64) - 1) ∧ ((M 0 64) - 1) < 13 ∧ 0 ≤ ((3100 * (M 0 9)) + (M 62 (M 0 9))) ∧ ((3100 * (M 0 9)) + (M 62 (M 0 9))) < 31000 ∧ -2147483648 ≤ (M 62 (M 0 9)) + 1 ∧ (M 62 (M 0 9)) + 1 ≤ 2147483647 ∧ Q x2 (up (up (up M 60 ((3100 * (M 0 9)) + (M 62 (M 0 9))) (M 63 ((M 0 64) - 1))) 61 ((3100 * (M 0 9)) + (M 62 (M 0 9))) x1) 62 (M 0 9) ((M 62 (M 0 9)) + 1))) ∧ (¬ ((M 0 64) ≠ 0) → 0 ≤ ((3100 * (M 0 9)) + (M 62 (M 0 9))) ∧ ((3100 * (M 0 9)) + (M 62 (M 0 9))) < 31000 ∧ -2147483648 ≤ (M 62 (M 0 9)) + 1 ∧ (M 62 (M 0 9)) + 1 ≤ 2147483647 ∧ Q x2 (up (up (up M 60 ((3100 * (M 0 9)) + (M 62 (M 0 9))) (-1)) 61 ((3100 * (M 0 9)) + (M 62 (M 0 9))) x1) 62 (M 0 9) ((M 62 (M 0 9)) + 1)))
set_option maxRecDepth 10000 in
theorem s_sees_0 {l : Launch} {G : GT} {m : Int} {a : Int → Int} {d mc ms : Nat} {S : Sh} {Q : Int → Mem → Prop} {rc : MP} {cl : MC} {V0 V M : Mem} {x1 x2 : Int} (hrc : RCok l G m a S V0 Q d mc ms rc) (hcl : CLok l G m a S d cl) (mr : MR m a S V M) (mf : MF m a V0 V) (hB : B_sees_0 rc cl Q d x1 x2 M) : XJ l G bX12_sees (Qm m a S V0 Q) (d + 1) 0 [vr m, vi x1, vi x2, vu] [] S V mc ms := by
  unfold B_sees_0 at hB
  refine X_sipush dX12_sees_0 (by decide) (by decide) ?_
  refine X_aload_n dX12_sees_3 rfl ?_
  refine X_getfield (ci := 12) (k := 9) (v := vi (M 0 9)) dX12_sees_4 rfl (by decide) kf_RX12_263 (congrArg vi (MR.in_ mr (k := 9) (by decide) rfl)) mr.1 ?_
  refine X_imulN dX12_sees_7 hB.1 hB.2.1 ?_
  refine X_aload_n dX12_sees_8 rfl ?_
  refine X_getfield (ci := 12) (k := 62) (v := vr (a 62)) dX12_sees_9 rfl (by decide) kf_RX12_146 (congrArg vr (MR.ar mr (k := 62) (by decide)).1) mr.1 ?_
  refine X_aload_n dX12_sees_12 rfl ?_
  refine X_getfield (ci := 12) (k := 9) (v := vi (M 0 9)) dX12_sees_13 rfl (by decide) kf_RX12_263 (congrArg vi (MR.in_ mr (k := 9) (by decide) rfl)) mr.1 ?_
  refine X_iaload dX12_sees_16 ((MR.ar mr (k := 62) (by decide)).2.1.trans (by decide)) hB.2.2.1 (lt_eq hB.2.2.2.1 (MR.ln mr (k := 62) (by decide) (by decide))) ?_
  refine X_top (v := vi (M 62 (M 0 9))) (congrArg vi (MR.el mr (k := 62) (by decide) rfl)) ?_
  refine X_iaddN dX12_sees_17 hB.2.2.2.2.1 hB.2.2.2.2.2.1 ?_
  refine X_istore_n dX12_sees_18 (by decide) rfl ?_
  refine X_aload_n dX12_sees_19 rfl ?_
  refine X_getfield (ci := 12) (k := 60) (v := vr (a 60)) dX12_sees_20 rfl (by decide) kf_RX12_140 (congrArg vr (MR.ar mr (k := 60) (by decide)).1) mr.1 ?_
  refine X_iload_n dX12_sees_23 rfl ?_
  refine X_aload_n dX12_sees_24 rfl ?_
  refine X_getfield (ci := 12) (k := 64) (v := vi (M 0 64)) dX12_sees_25 rfl (by decide) kf_RX12_413 (congrArg vi (MR.in_ mr (k := 64) (by decide) rfl)) mr.1 ?_
  refine X_if_ne dX12_sees_28 (tgt := 35) rfl (fun c1 => ?_) (fun c1 => ?_)
  · refine X_aload_n dX12_sees_35 rfl ?_
    refine X_getfield (ci := 12) (k := 63) (v := vr (a 63)) dX12_sees_36 rfl (by decide) kf_RX12_149 (congrArg vr (MR.ar mr (k := 63) (by decide)).1) mr.1 ?_
    refine X_aload_n dX12_sees_39 rfl ?_
    refine X_getfield (ci := 12) (k := 64) (v := vi (M 0 64)) dX12_sees_40 rfl (by decide) kf_RX12_413 (congrArg vi (MR.in_ mr (k := 64) (by decide) rfl)) mr.1 ?_
    refine X_iconst dX12_sees_43 (by decide) ?_
    refine X_isubN dX12_sees_44 (hB.2.2.2.2.2.2.1 c1).1 (hB.2.2.2.2.2.2.1 c1).2.1 ?_
    refine X_iaload dX12_sees_45 ((MR.ar mr (k := 63) (by decide)).2.1.trans (by decide)) (hB.2.2.2.2.2.2.1 c1).2.2.1 (lt_eq (hB.2.2.2.2.2.2.1 c1).2.2.2.1 (MR.ln mr (k := 63) (by decide) (by decide))) ?_
    refine X_top (v := vi (M 63 ((M 0 64) - 1))) (congrArg vi (MR.el mr (k := 63) (by decide) rfl)) ?_
    refine X_iastore dX12_sees_46 ((MR.ar mr (k := 60) (by decide)).2.1.trans (by decide)) (hB.2.2.2.2.2.2.1 c1).2.2.2.2.1 (lt_eq (hB.2.2.2.2.2.2.1 c1).2.2.2.2.2.1 (MR.ln mr (k := 60) (by decide) (by decide))) ?_
    refine X_aload_n dX12_sees_47 rfl ?_
    refine X_getfield (ci := 12) (k := 61) (v := vr (a 61)) dX12_sees_48 rfl (by decide) kf_RX12_143 (congrArg vr (MR.ar (MR.putA mr (k := 60) (j := (3100 * (M 0 9)) + (M 62 (M 0 9))) (z := M 63 ((M 0 64) - 1)) (by decide)) (k := 61) (by decide)).1) (MR.putA mr (k := 60) (j := (3100 * (M 0 9)) + (M 62 (M 0 9))) (z := M 63 ((M 0 64) - 1)) (by decide)).1 ?_
    refine X_iload_n dX12_sees_51 rfl ?_
    refine X_iload_n dX12_sees_52 rfl ?_
    refine X_iastore dX12_sees_53 ((MR.ar (MR.putA mr (k := 60) (j := (3100 * (M 0 9)) + (M 62 (M 0 9))) (z := M 63 ((M 0 64) - 1)) (by decide)) (k := 61) (by decide)).2.1.trans (by decide)) (hB.2.2.2.2.2.2.1 c1).2.2.2.2.1 (lt_eq (hB.2.2.2.2.2.2.1 c1).2.2.2.2.2.1 (MR.ln (MR.putA mr (k := 60) (j := (3100 * (M 0 9)) + (M 62 (M 0 9))) (z := M 63 ((M 0 64) - 1)) (by decide)) (k := 61) (by decide) (by decide))) ?_
    refine X_aload_n dX12_sees_54 rfl ?_
    refine X_getfield (ci := 12) (k := 62) (v := vr (a 62)) dX12_sees_55 rfl (by decide) kf_RX12_146 (congrArg vr (MR.ar (MR.putA (MR.putA mr (k := 60) (j := (3100 * (M 0 9)) + (M 62 (M 0 9))) (z := M 63 ((M 0 64) - 1)) (by decide)) (k := 61) (j := (3100 * (M 0 9)) + (M 62 (M 0 9))) (z := x1) (by decide)) (k := 62) (by decide)).1) (MR.putA (MR.putA mr (k := 60) (j := (3100 * (M 0 9)) + (M 62 (M 0 9))) (z := M 63 ((M 0 64) - 1)) (by decide)) (k := 61) (j := (3100 * (M 0 9)) + (M 62 (M 0 9))) (z := x1) (by decide)).1 ?_
    refine X_aload_n dX12_sees_58 rfl ?_
    refine X_getfield (ci := 12) (k := 9) (v := vi (M 0 9)) dX12_sees_59 rfl (by decide) kf_RX12_263 (congrArg vi (MR.in_ (MR.putA (MR.putA mr (k := 60) (j := (3100 * (M 0 9)) + (M 62 (M 0 9))) (z := M 63 ((M 0 64) - 1)) (by decide)) (k := 61) (j := (3100 * (M 0 9)) + (M 62 (M 0 9))) (z := x1) (by decide)) (k := 9) (by decide) ((up_ne (Or.inl (by decide))).trans (up_ne (Or.inl (by decide)))))) (MR.putA (MR.putA mr (k := 60) (j := (3100 * (M 0 9)) + (M 62 (M 0 9))) (z := M 63 ((M 0 64) - 1)) (by decide)) (k := 61) (j := (3100 * (M 0 9)) + (M 62 (M 0 9))) (z := x1) (by decide)).1 ?_
    refine X_dup2 dX12_sees_62 rfl (rv_cat _) ?_
    refine X_iaload dX12_sees_63 ((MR.ar (MR.putA (MR.putA mr (k := 60) (j := (3100 * (M 0 9)) + (M 62 (M 0 9))) (z := M 63 ((M 0 64) - 1)) (by decide)) (k := 61) (j := (3100 * (M 0 9)) + (M 62 (M 0 9))) (z := x1) (by decide)) (k := 62) (by decide)).2.1.trans (by decide)) hB.2.2.1 (lt_eq hB.2.2.2.1 (MR.ln (MR.putA (MR.putA mr (k := 60) (j := (3100 * (M 0 9)) + (M 62 (M 0 9))) (z := M 63 ((M 0 64) - 1)) (by decide)) (k := 61) (j := (3100 * (M 0 9)) + (M 62 (M 0 9))) (z := x1) (by decide)) (k := 62) (by decide) (by decide))) ?_
    refine X_top (v := vi (M 62 (M 0 9))) (congrArg vi (MR.el (MR.putA (MR.putA mr (k := 60) (j := (3100 * (M 0 9)) + (M 62 (M 0 9))) (z := M 63 ((M 0 64) - 1)) (by decide)) (k := 61) (j := (3100 * (M 0 9)) + (M 62 (M 0 9))) (z := x1) (by decide)) (k := 62) (by decide) ((up_ne (Or.inl (by decide))).trans (up_ne (Or.inl (by decide)))))) ?_
    refine X_iconst dX12_sees_64 (by decide) ?_
    refine X_iaddN dX12_sees_65 (hB.2.2.2.2.2.2.1 c1).2.2.2.2.2.2.1 (hB.2.2.2.2.2.2.1 c1).2.2.2.2.2.2.2.1 ?_
    refine X_iastore dX12_sees_66 ((MR.ar (MR.putA (MR.putA mr (k := 60) (j := (3100 * (M 0 9)) + (M 62 (M 0 9))) (z := M 63 ((M 0 64) - 1)) (by decide)) (k := 61) (j := (3100 * (M 0 9)) + (M 62 (M 0 9))) (z := x1) (by decide)) (k := 62) (by decide)).2.1.trans (by decide)) hB.2.2.1 (lt_eq hB.2.2.2.1 (MR.ln (MR.putA (MR.putA mr (k := 60) (j := (3100 * (M 0 9)) + (M 62 (M 0 9))) (z := M 63 ((M 0 64) - 1)) (by decide)) (k := 61) (j := (3100 * (M 0 9)) + (M 62 (M 0 9))) (z := x1) (by decide)) (k := 62) (by decide) (by decide))) ?_
    refine X_iload_n dX12_sees_67 rfl ?_
    exact X_ret (z := x2) dX12_sees_68 rfl (fun hv => vok_h hv) ⟨rfl, _, (hB.2.2.2.2.2.2.1 c1).2.2.2.2.2.2.2.2, (MR.putA (MR.putA (MR.putA mr (k := 60) (j := (3100 * (M 0 9)) + (M 62 (M 0 9))) (z := M 63 ((M 0 64) - 1)) (by decide)) (k := 61) (j := (3100 * (M 0 9)) + (M 62 (M 0 9))) (z := x1) (by decide)) (k := 62) (j := M 0 9) (z := (M 62 (M 0 9)) + 1) (by decide)), (MF.putA (MF.putA (MF.putA mf (k := 60) (j := (3100 * (M 0 9)) + (M 62 (M 0 9))) (z := M 63 ((M 0 64) - 1)) (by decide)) (k := 61) (j := (3100 * (M 0 9)) + (M 62 (M 0 9))) (z := x1) (by decide)) (k := 62) (j := M 0 9) (z := (M 62 (M 0 9)) + 1) (by decide))⟩
  · refine X_iconst dX12_sees_31 (by decide) ?_
    refine X_goto dX12_sees_32 (tgt := 46) rfl ?_
    refine X_iastore dX12_sees_46 ((MR.ar mr (k := 60) (by decide)).2.1.trans (by decide)) (hB.2.2.2.2.2.2.2 c1).1 (lt_eq (hB.2.2.2.2.2.2.2 c1).2.1 (MR.ln mr (k := 60) (by decide) (by decide))) ?_
    refine X_aload_n dX12_sees_47 rfl ?_
    refine X_getfield (ci := 12) (k := 61) (v := vr (a 61)) dX12_sees_48 rfl (by decide) kf_RX12_143 (congrArg vr (MR.ar (MR.putA mr (k := 60) (j := (3100 * (M 0 9)) + (M 62 (M 0 9))) (z := (-1)) (by decide)) (k := 61) (by decide)).1) (MR.putA mr (k := 60) (j := (3100 * (M 0 9)) + (M 62 (M 0 9))) (z := (-1)) (by decide)).1 ?_
    refine X_iload_n dX12_sees_51 rfl ?_
    refine X_iload_n dX12_sees_52 rfl ?_
    refine X_iastore dX12_sees_53 ((MR.ar (MR.putA mr (k := 60) (j := (3100 * (M 0 9)) + (M 62 (M 0 9))) (z := (-1)) (by decide)) (k := 61) (by decide)).2.1.trans (by decide)) (hB.2.2.2.2.2.2.2 c1).1 (lt_eq (hB.2.2.2.2.2.2.2 c1).2.1 (MR.ln (MR.putA mr (k := 60) (j := (3100 * (M 0 9)) + (M 62 (M 0 9))) (z := (-1)) (by decide)) (k := 61) (by decide) (by decide))) ?_
    refine X_aload_n dX12_sees_54 rfl ?_
    refine X_getfield (ci := 12) (k := 62) (v := vr (a 62)) dX12_sees_55 rfl (by decide) kf_RX12_146 (congrArg vr (MR.ar (MR.putA (MR.putA mr (k := 60) (j := (3100 * (M 0 9)) + (M 62 (M 0 9))) (z := (-1)) (by decide)) (k := 61) (j := (3100 * (M 0 9)) + (M 62 (M 0 9))) (z := x1) (by decide)) (k := 62) (by decide)).1) (MR.putA (MR.putA mr (k := 60) (j := (3100 * (M 0 9)) + (M 62 (M 0 9))) (z := (-1)) (by decide)) (k := 61) (j := (3100 * (M 0 9)) + (M 62 (M 0 9))) (z := x1) (by decide)).1 ?_
    refine X_aload_n dX12_sees_58 rfl ?_
    refine X_getfield (ci := 12) (k := 9) (v := vi (M 0 9)) dX12_sees_59 rfl (by decide) kf_RX12_263 (congrArg vi (MR.in_ (MR.putA (MR.putA mr (k := 60) (j := (3100 * (M 0 9)) + (M 62 (M 0 9))) (z := (-1)) (by decide)) (k := 61) (j := (3100 * (M 0 9)) + (M 62 (M 0 9))) (z := x1) (by decide)) (k := 9) (by decide) ((up_ne (Or.inl (by decide))).trans (up_ne (Or.inl (by decide)))))) (MR.putA (MR.putA mr (k := 60) (j := (3100 * (M 0 9)) + (M 62 (M 0 9))) (z := (-1)) (by decide)) (k := 61) (j := (3100 * (M 0 9)) + (M 62 (M 0 9))) (z := x1) (by decide)).1 ?_
    refine X_dup2 dX12_sees_62 rfl (rv_cat _) ?_
    refine X_iaload dX12_sees_63 ((MR.ar (MR.putA (MR.putA mr (k := 60) (j := (3100 * (M 0 9)) + (M 62 (M 0 9))) (z := (-1)) (by decide)) (k := 61) (j := (3100 * (M 0 9)) + (M 62 (M 0 9))) (z := x1) (by decide)) (k := 62) (by decide)).2.1.trans (by decide)) hB.2.2.1 (lt_eq hB.2.2.2.1 (MR.ln (MR.putA (MR.putA mr (k := 60) (j := (3100 * (M 0 9)) + (M 62 (M 0 9))) (z := (-1)) (by decide)) (k := 61) (j := (3100 * (M 0 9)) + (M 62 (M 0 9))) (z := x1) (by decide)) (k := 62) (by decide) (by decide))) ?_
    refine X_top (v := vi (M 62 (M 0 9))) (congrArg vi (MR.el (MR.putA (MR.putA mr (k := 60) (j := (3100 * (M 0 9)) + (M 62 (M 0 9))) (z := (-1)) (by decide)) (k := 61) (j := (3100 * (M 0 9)) + (M 62 (M 0 9))) (z := x1) (by decide)) (k := 62) (by decide) ((up_ne (Or.inl (by decide))).trans (up_ne (Or.inl (by decide)))))) ?_
    refine X_iconst dX12_sees_64 (by decide) ?_
    refine X_iaddN dX12_sees_65 (hB.2.2.2.2.2.2.2 c1).2.2.1 (hB.2.2.2.2.2.2.2 c1).2.2.2.1 ?_
    refine X_iastore dX12_sees_66 ((MR.ar (MR.putA (MR.putA mr (k := 60) (j := (3100 * (M 0 9)) + (M 62 (M 0 9))) (z := (-1)) (by decide)) (k := 61) (j := (3100 * (M 0 9)) + (M 62 (M 0 9))) (z := x1) (by decide)) (k := 62) (by decide)).2.1.trans (by decide)) hB.2.2.1 (lt_eq hB.2.2.2.1 (MR.ln (MR.putA (MR.putA mr (k := 60) (j := (3100 * (M 0 9)) + (M 62 (M 0 9))) (z := (-1)) (by decide)) (k := 61) (j := (3100 * (M 0 9)) + (M 62 (M 0 9))) (z := x1) (by decide)) (k := 62) (by decide) (by decide))) ?_
    refine X_iload_n dX12_sees_67 rfl ?_
    exact X_ret (z := x2) dX12_sees_68 rfl (fun hv => vok_h hv) ⟨rfl, _, (hB.2.2.2.2.2.2.2 c1).2.2.2.2, (MR.putA (MR.putA (MR.putA mr (k := 60) (j := (3100 * (M 0 9)) + (M 62 (M 0 9))) (z := (-1)) (by decide)) (k := 61) (j := (3100 * (M 0 9)) + (M 62 (M 0 9))) (z := x1) (by decide)) (k := 62) (j := M 0 9) (z := (M 62 (M 0 9)) + 1) (by decide)), (MF.putA (MF.putA (MF.putA mf (k := 60) (j := (3100 * (M 0 9)) + (M 62 (M 0 9))) (z := (-1)) (by decide)) (k := 61) (j := (3100 * (M 0 9)) + (M 62 (M 0 9))) (z := x1) (by decide)) (k := 62) (j := M 0 9) (z := (M 62 (M 0 9)) + 1) (by decide))⟩
def B_value_0 (rc : MP) (cl : MC) (Q : Int → Mem → Prop) (d : Nat) (x1 x2 x3 : Int) (M : Mem) : Prop := ((M 0 65) = 0 → 0 ≤ x1 ∧ x1 < 31000 ∧ ((M 35 x1) = 0 → Q (M 36 x1) M) ∧ (¬ (M 35 x1) = 0 → ((M 35 x1) = 1 → cl n_value_0 [M 36 x1, x2, x3] M (fun z4 M4 => Q (wr (-z4)) M4)) ∧ (¬ (M 35 x1) = 1 → ((M 35 x1) = 2 → cl n_both_0 [x1, x2, x3] M (fun z7 M7 => Q z7 M7)) ∧ (¬ (M 35 x1) = 2 → ((M 35 x1) = 3 → cl n_both_0 [x1, x2, x3] M (fun z10 M10 => Q z10 M10)) ∧ (¬ (M 35 x1) = 3 → ((M 35 x1) = 4 → cl n_both_0 [x1, x2, x3] M (fun z13 M13 => Q z13 M13)) ∧ (¬ (M 35 x1) = 4 → ((M 35 x1) = 5 → cl n_both_0 [x1, x2, x3] M (fun z16 M16 => Q z16 M16)) ∧ (¬ (M 35 x1) = 5 → ((M 35 x1) = 6 → 0 ≤ x2 ∧ x2 < 2880 ∧ Q (M 54 x2) M) ∧ (¬ (M 35 x1) = 6 → ((M 35 x1) = 7 → Q (x2.tmod 24) M) ∧ (¬ (M 35 x1) = 7 → ((M 35 x1) = 8 → -2147483648 ≤ 4 * (x2.tdiv 24) ∧ 4 * (x2.tdiv 24) ≤ 2147483647 ∧ -2147483648 ≤ (4 * (x2.tdiv 24)) + x3 ∧ (4 * (x2.tdiv 24)) + x3 ≤ 2147483647 ∧ 0 ≤ ((4 * (x2.tdiv 24)) + x3) ∧ ((4 * (x2.tdiv 24)) + x3) < 480 ∧ ((M 19 ((4 * (x2.tdiv 24)) + x3)) ≠ (-1) → cl n_value_0 [M 19 ((4 * (x2.tdiv 24)) + x3), x2, x3] M (fun z22 M22 => Q z22 M22)) ∧ (¬ ((M 19 ((4 * (x2.tdiv 24)) + x3)) ≠ (-1)) → cl n_failing_0 [5, (-1)] M (fun z24 M24 => Q z24 M24))) ∧ (¬ (M 35 x1) = 8 → ((M 35 x1) = 9 → 0 ≤ (M 39 x1) ∧ (M 39 x1) < 120 ∧ Q (M 14 (M 39 x1)) M) ∧ (¬ (M 35 x1) = 9 → ((M 35 x1) = 10 → cl n_use_0 [((M 36 x1).tdiv 24).tmod 12] M (fun z28 M28 => ((M28 0 65) = 0 → 0 ≤ ((M 36 x1).tdiv 24) ∧ ((M 36 x1).tdiv 24) < 120 ∧ ((M28 53 ((M 36 x1).tdiv 24)) ≤ ((M 36 x1).tmod 24) → cl n_sees_0 [((M 36 x1).tdiv 24).tmod 12, (-1)] M28 (fun z32 M32 => Q z32 M32)) ∧ (¬ ((M28 53 ((M 36 x1).tdiv 24)) ≤ ((M 36 x1).tmod 24)) → Q ((M 36 x1).tmod 24) M28)) ∧ (¬ ((M28 0 65) = 0) → Q 0 M28))) ∧ (¬ (M 35 x1) = 10 → ((M 35 x1) = 11 → -2147483648 ≤ 100 + ((M 36 x1).tmod 48) ∧ 100 + ((M 36 x1).tmod 48) ≤ 2147483647 ∧ cl n_use_0 [100 + ((M 36 x1).tmod 48)] M (fun z35 M35 => ((M35 0 65) = 0 → -2147483648 ≤ 160 * (M35 0 9) ∧ 160 * (M35 0 9) ≤ 2147483647 ∧ -2147483648 ≤ (160 * (M35 0 9)) + (100 + ((M 36 x1).tmod 48)) ∧ (160 * (M35 0 9)) + (100 + ((M 36 x1).tmod 48)) ≤ 2147483647 ∧ 0 ≤ ((160 * (M35 0 9)) + (100 + ((M 36 x1).tmod 48))) ∧ ((160 * (M35 0 9)) + (100 + ((M 36 x1).tmod 48))) < 1600 ∧ ((M35 52 ((160 * (M35 0 9)) + (100 + ((M 36 x1).tmod 48)))) ≠ 3 → 0 ≤ (M 36 x1) ∧ (M 36 x1) < 480 ∧ Q (M35 57 (M 36 x1)) M35) ∧ (¬ ((M35 52 ((160 * (M35 0 9)) + (100 + ((M 36 x1).tmod 48)))) ≠ 3) → cl n_sees_0 [100 + ((M 36 x1).tmod 48), 0] M35 (fun z39 M39 => Q z39 M39))) ∧ (¬ ((M35 0 65) = 0) → Q 0 M35))) ∧ (¬ (M 35 x1) = 11 → ((M 35 x1) = 12 → cl n_entryOf_0 [x1, x2, x3] M (fun z42 M42 => Q z42 M42)) ∧ (¬ (M 35 x1) = 12 → cl n_both_0 [x1, x2, x3] M (fun z44 M44 => Q z44 M44))))))))))))))) ∧ (¬ ((M 0 65) = 0) → Q 0 M)
set_option maxRecDepth 10000 in
theorem s_value_0 {l : Launch} {G : GT} {m : Int} {a : Int → Int} {d mc ms : Nat} {S : Sh} {Q : Int → Mem → Prop} {rc : MP} {cl : MC} {V0 V M : Mem} {x1 x2 x3 : Int} (hrc : RCok l G m a S V0 Q d mc ms rc) (hcl : CLok l G m a S d cl) (mr : MR m a S V M) (mf : MF m a V0 V) (hB : B_value_0 rc cl Q d x1 x2 x3 M) : XJ l G bX12_value (Qm m a S V0 Q) (d + 1) 0 [vr m, vi x1, vi x2, vi x3, vu, vu, vu, vu] [] S V mc ms := by
  unfold B_value_0 at hB
  refine X_aload_n dX12_value_0 rfl ?_
  refine X_getfield (ci := 12) (k := 65) (v := vi (M 0 65)) dX12_value_1 rfl (by decide) kf_RX12_401 (congrArg vi (MR.in_ mr (k := 65) (by decide) rfl)) mr.1 ?_
  refine X_if_eq dX12_value_4 (tgt := 9) rfl (fun c1 => ?_) (fun c1 => ?_)
  · refine X_aload_n dX12_value_9 rfl ?_
    refine X_getfield (ci := 12) (k := 36) (v := vr (a 36)) dX12_value_10 rfl (by decide) kf_RX12_95 (congrArg vr (MR.ar mr (k := 36) (by decide)).1) mr.1 ?_
    refine X_iload_n dX12_value_13 rfl ?_
    refine X_iaload dX12_value_14 ((MR.ar mr (k := 36) (by decide)).2.1.trans (by decide)) (hB.1 c1).1 (lt_eq (hB.1 c1).2.1 (MR.ln mr (k := 36) (by decide) (by decide))) ?_
    refine X_top (v := vi (M 36 x1)) (congrArg vi (MR.el mr (k := 36) (by decide) rfl)) ?_
    refine X_istore dX12_value_15 (by decide) rfl ?_
    refine X_aload_n dX12_value_17 rfl ?_
    refine X_getfield (ci := 12) (k := 35) (v := vr (a 35)) dX12_value_18 rfl (by decide) kf_RX12_92 (congrArg vr (MR.ar mr (k := 35) (by decide)).1) mr.1 ?_
    refine X_iload_n dX12_value_21 rfl ?_
    refine X_iaload dX12_value_22 ((MR.ar mr (k := 35) (by decide)).2.1.trans (by decide)) (hB.1 c1).1 (lt_eq (hB.1 c1).2.1 (MR.ln mr (k := 35) (by decide) (by decide))) ?_
    refine X_top (v := vi (M 35 x1)) (congrArg vi (MR.el mr (k := 35) (by decide) rfl)) ?_
    by_cases c2 : (M 35 x1) = 0
    · refine X_table dX12_value_23 88 65 (by rw [c2]; rfl) rfl ?_
      refine X_iload dX12_value_88 rfl ?_
      exact X_ret (z := (M 36 x1)) dX12_value_90 rfl (fun hv => vok_h hv) ⟨rfl, _, ((hB.1 c1).2.2.1 c2), mr, mf⟩
    by_cases c3 : (M 35 x1) = 1
    · refine X_table dX12_value_23 91 68 (by rw [c3]; rfl) rfl ?_
      refine X_aload_n dX12_value_91 rfl ?_
      refine X_iload dX12_value_92 rfl ?_
      refine X_iload_n dX12_value_94 rfl ?_
      refine X_iload_n dX12_value_95 rfl ?_
      refine X_invV (ci := 12) (as := [vi (M 36 x1), vi x2, vi x3]) (st := []) okX12_value dX12_value_96 km_RX12_422 rfl rfl (Nat.le_of_ble_eq_true rfl) rfl rfl mr.1 (CT.of d 0 0 (hcl n_value_0 rfl [M 36 x1, x2, x3] _ _ _ (((hB.1 c1).2.2.2 c2).1 c3) mr) (Nat.le_refl _) (Nat.zero_le _) (Nat.zero_le _) (fun z4 S4 V4 hq4 => ?_))
      obtain ⟨rfl, M4, hc5, mr4, hf4⟩ := hq4
      have mf4 := MF.trans mf hf4
      refine X_ineg dX12_value_99 ?_
      exact X_ret (z := (wr (-z4))) dX12_value_100 rfl (fun hv => vok_h hv) ⟨rfl, _, hc5, mr4, mf4⟩
    by_cases c6 : (M 35 x1) = 2
    · refine X_table dX12_value_23 294 271 (by rw [c6]; rfl) rfl ?_
      refine X_aload_n dX12_value_294 rfl ?_
      refine X_iload_n dX12_value_295 rfl ?_
      refine X_iload_n dX12_value_296 rfl ?_
      refine X_iload_n dX12_value_297 rfl ?_
      refine X_invV (ci := 12) (as := [vi x1, vi x2, vi x3]) (st := []) okX12_both dX12_value_298 km_RX12_433 rfl rfl (Nat.le_of_ble_eq_true rfl) rfl rfl mr.1 (CT.of d 0 0 (hcl n_both_0 rfl [x1, x2, x3] _ _ _ ((((hB.1 c1).2.2.2 c2).2 c3).1 c6) mr) (Nat.le_refl _) (Nat.zero_le _) (Nat.zero_le _) (fun z7 S7 V7 hq7 => ?_))
      obtain ⟨rfl, M7, hc8, mr7, hf7⟩ := hq7
      have mf7 := MF.trans mf hf7
      exact X_ret (z := z7) dX12_value_301 rfl (fun hv => vok_h hv) ⟨rfl, _, hc8, mr7, mf7⟩
    by_cases c9 : (M 35 x1) = 3
    · refine X_table dX12_value_23 294 271 (by rw [c9]; rfl) rfl ?_
      refine X_aload_n dX12_value_294 rfl ?_
      refine X_iload_n dX12_value_295 rfl ?_
      refine X_iload_n dX12_value_296 rfl ?_
      refine X_iload_n dX12_value_297 rfl ?_
      refine X_invV (ci := 12) (as := [vi x1, vi x2, vi x3]) (st := []) okX12_both dX12_value_298 km_RX12_433 rfl rfl (Nat.le_of_ble_eq_true rfl) rfl rfl mr.1 (CT.of d 0 0 (hcl n_both_0 rfl [x1, x2, x3] _ _ _ (((((hB.1 c1).2.2.2 c2).2 c3).2 c6).1 c9) mr) (Nat.le_refl _) (Nat.zero_le _) (Nat.zero_le _) (fun z10 S10 V10 hq10 => ?_))
      obtain ⟨rfl, M10, hc11, mr10, hf10⟩ := hq10
      have mf10 := MF.trans mf hf10
      exact X_ret (z := z10) dX12_value_301 rfl (fun hv => vok_h hv) ⟨rfl, _, hc11, mr10, mf10⟩
    by_cases c12 : (M 35 x1) = 4
    · refine X_table dX12_value_23 294 271 (by rw [c12]; rfl) rfl ?_
      refine X_aload_n dX12_value_294 rfl ?_
      refine X_iload_n dX12_value_295 rfl ?_
      refine X_iload_n dX12_value_296 rfl ?_
      refine X_iload_n dX12_value_297 rfl ?_
      refine X_invV (ci := 12) (as := [vi x1, vi x2, vi x3]) (st := []) okX12_both dX12_value_298 km_RX12_433 rfl rfl (Nat.le_of_ble_eq_true rfl) rfl rfl mr.1 (CT.of d 0 0 (hcl n_both_0 rfl [x1, x2, x3] _ _ _ ((((((hB.1 c1).2.2.2 c2).2 c3).2 c6).2 c9).1 c12) mr) (Nat.le_refl _) (Nat.zero_le _) (Nat.zero_le _) (fun z13 S13 V13 hq13 => ?_))
      obtain ⟨rfl, M13, hc14, mr13, hf13⟩ := hq13
      have mf13 := MF.trans mf hf13
      exact X_ret (z := z13) dX12_value_301 rfl (fun hv => vok_h hv) ⟨rfl, _, hc14, mr13, mf13⟩
    by_cases c15 : (M 35 x1) = 5
    · refine X_table dX12_value_23 294 271 (by rw [c15]; rfl) rfl ?_
      refine X_aload_n dX12_value_294 rfl ?_
      refine X_iload_n dX12_value_295 rfl ?_
      refine X_iload_n dX12_value_296 rfl ?_
      refine X_iload_n dX12_value_297 rfl ?_
      refine X_invV (ci := 12) (as := [vi x1, vi x2, vi x3]) (st := []) okX12_both dX12_value_298 km_RX12_433 rfl rfl (Nat.le_of_ble_eq_true rfl) rfl rfl mr.1 (CT.of d 0 0 (hcl n_both_0 rfl [x1, x2, x3] _ _ _ (((((((hB.1 c1).2.2.2 c2).2 c3).2 c6).2 c9).2 c12).1 c15) mr) (Nat.le_refl _) (Nat.zero_le _) (Nat.zero_le _) (fun z16 S16 V16 hq16 => ?_))
      obtain ⟨rfl, M16, hc17, mr16, hf16⟩ := hq16
      have mf16 := MF.trans mf hf16
      exact X_ret (z := z16) dX12_value_301 rfl (fun hv => vok_h hv) ⟨rfl, _, hc17, mr16, mf16⟩
    by_cases c18 : (M 35 x1) = 6
    · refine X_table dX12_value_23 101 78 (by rw [c18]; rfl) rfl ?_
      refine X_aload_n dX12_value_101 rfl ?_
      refine X_getfield (ci := 12) (k := 54) (v := vr (a 54)) dX12_value_102 rfl (by decide) kf_RX12_122 (congrArg vr (MR.ar mr (k := 54) (by decide)).1) mr.1 ?_
      refine X_iload_n dX12_value_105 rfl ?_
      refine X_iaload dX12_value_106 ((MR.ar mr (k := 54) (by decide)).2.1.trans (by decide)) ((((((((hB.1 c1).2.2.2 c2).2 c3).2 c6).2 c9).2 c12).2 c15).1 c18).1 (lt_eq ((((((((hB.1 c1).2.2.2 c2).2 c3).2 c6).2 c9).2 c12).2 c15).1 c18).2.1 (MR.ln mr (k := 54) (by decide) (by decide))) ?_
      refine X_top (v := vi (M 54 x2)) (congrArg vi (MR.el mr (k := 54) (by decide) rfl)) ?_
      exact X_ret (z := (M 54 x2)) dX12_value_107 rfl (fun hv => vok_h hv) ⟨rfl, _, ((((((((hB.1 c1).2.2.2 c2).2 c3).2 c6).2 c9).2 c12).2 c15).1 c18).2.2, mr, mf⟩
    by_cases c19 : (M 35 x1) = 7
    · refine X_table dX12_value_23 108 85 (by rw [c19]; rfl) rfl ?_
      refine X_iload_n dX12_value_108 rfl ?_
      refine X_bipush dX12_value_109 (by decide) (by decide) ?_
      refine X_iremP dX12_value_111 (by decide) ?_
      exact X_ret (z := (x2.tmod 24)) dX12_value_112 rfl (fun hv => vok_h hv) ⟨rfl, _, (((((((((hB.1 c1).2.2.2 c2).2 c3).2 c6).2 c9).2 c12).2 c15).2 c18).1 c19), mr, mf⟩
    by_cases c20 : (M 35 x1) = 8
    · refine X_table dX12_value_23 125 102 (by rw [c20]; rfl) rfl ?_
      refine X_aload_n dX12_value_125 rfl ?_
      refine X_getfield (ci := 12) (k := 19) (v := vr (a 19)) dX12_value_126 rfl (by decide) kf_RX12_44 (congrArg vr (MR.ar mr (k := 19) (by decide)).1) mr.1 ?_
      refine X_iconst dX12_value_129 (by decide) ?_
      refine X_iload_n dX12_value_130 rfl ?_
      refine X_bipush dX12_value_131 (by decide) (by decide) ?_
      refine X_idivP dX12_value_133 (by decide) ?_
      refine X_imulN dX12_value_134 ((((((((((hB.1 c1).2.2.2 c2).2 c3).2 c6).2 c9).2 c12).2 c15).2 c18).2 c19).1 c20).1 ((((((((((hB.1 c1).2.2.2 c2).2 c3).2 c6).2 c9).2 c12).2 c15).2 c18).2 c19).1 c20).2.1 ?_
      refine X_iload_n dX12_value_135 rfl ?_
      refine X_iaddN dX12_value_136 ((((((((((hB.1 c1).2.2.2 c2).2 c3).2 c6).2 c9).2 c12).2 c15).2 c18).2 c19).1 c20).2.2.1 ((((((((((hB.1 c1).2.2.2 c2).2 c3).2 c6).2 c9).2 c12).2 c15).2 c18).2 c19).1 c20).2.2.2.1 ?_
      refine X_iaload dX12_value_137 ((MR.ar mr (k := 19) (by decide)).2.1.trans (by decide)) ((((((((((hB.1 c1).2.2.2 c2).2 c3).2 c6).2 c9).2 c12).2 c15).2 c18).2 c19).1 c20).2.2.2.2.1 (lt_eq ((((((((((hB.1 c1).2.2.2 c2).2 c3).2 c6).2 c9).2 c12).2 c15).2 c18).2 c19).1 c20).2.2.2.2.2.1 (MR.ln mr (k := 19) (by decide) (by decide))) ?_
      refine X_top (v := vi (M 19 ((4 * (x2.tdiv 24)) + x3))) (congrArg vi (MR.el mr (k := 19) (by decide) rfl)) ?_
      refine X_istore dX12_value_138 (by decide) rfl ?_
      refine X_iload dX12_value_140 rfl ?_
      refine X_iconst dX12_value_142 (by decide) ?_
      refine X_icmp_ne dX12_value_143 (tgt := 155) rfl (fun c21 => ?_) (fun c21 => ?_)
      · refine X_aload_n dX12_value_155 rfl ?_
        refine X_iload dX12_value_156 rfl ?_
        refine X_iload_n dX12_value_158 rfl ?_
        refine X_iload_n dX12_value_159 rfl ?_
        refine X_invV (ci := 12) (as := [vi (M 19 ((4 * (x2.tdiv 24)) + x3)), vi x2, vi x3]) (st := []) okX12_value dX12_value_160 km_RX12_422 rfl rfl (Nat.le_of_ble_eq_true rfl) rfl rfl mr.1 (CT.of d 0 0 (hcl n_value_0 rfl [M 19 ((4 * (x2.tdiv 24)) + x3), x2, x3] _ _ _ (((((((((((hB.1 c1).2.2.2 c2).2 c3).2 c6).2 c9).2 c12).2 c15).2 c18).2 c19).1 c20).2.2.2.2.2.2.1 c21) mr) (Nat.le_refl _) (Nat.zero_le _) (Nat.zero_le _) (fun z22 S22 V22 hq22 => ?_))
        obtain ⟨rfl, M22, hc23, mr22, hf22⟩ := hq22
        have mf22 := MF.trans mf hf22
        exact X_ret (z := z22) dX12_value_163 rfl (fun hv => vok_h hv) ⟨rfl, _, hc23, mr22, mf22⟩
      · refine X_aload_n dX12_value_146 rfl ?_
        refine X_iconst dX12_value_147 (by decide) ?_
        refine X_iconst dX12_value_148 (by decide) ?_
        refine X_invV (ci := 12) (as := [vi 5, vi (-1)]) (st := []) okX12_failing dX12_value_149 km_RX12_407 rfl rfl (Nat.le_of_ble_eq_true rfl) rfl rfl mr.1 (CT.of d 0 0 (hcl n_failing_0 rfl [5, (-1)] _ _ _ (((((((((((hB.1 c1).2.2.2 c2).2 c3).2 c6).2 c9).2 c12).2 c15).2 c18).2 c19).1 c20).2.2.2.2.2.2.2 c21) mr) (Nat.le_refl _) (Nat.zero_le _) (Nat.zero_le _) (fun z24 S24 V24 hq24 => ?_))
        obtain ⟨rfl, M24, hc25, mr24, hf24⟩ := hq24
        have mf24 := MF.trans mf hf24
        refine X_goto dX12_value_152 (tgt := 163) rfl ?_
        exact X_ret (z := z24) dX12_value_163 rfl (fun hv => vok_h hv) ⟨rfl, _, hc25, mr24, mf24⟩
    by_cases c26 : (M 35 x1) = 9
    · refine X_table dX12_value_23 113 90 (by rw [c26]; rfl) rfl ?_
      refine X_aload_n dX12_value_113 rfl ?_
      refine X_getfield (ci := 12) (k := 14) (v := vr (a 14)) dX12_value_114 rfl (by decide) kf_RX12_29 (congrArg vr (MR.ar mr (k := 14) (by decide)).1) mr.1 ?_
      refine X_aload_n dX12_value_117 rfl ?_
      refine X_getfield (ci := 12) (k := 39) (v := vr (a 39)) dX12_value_118 rfl (by decide) kf_RX12_104 (congrArg vr (MR.ar mr (k := 39) (by decide)).1) mr.1 ?_
      refine X_iload_n dX12_value_121 rfl ?_
      refine X_iaload dX12_value_122 ((MR.ar mr (k := 39) (by decide)).2.1.trans (by decide)) (hB.1 c1).1 (lt_eq (hB.1 c1).2.1 (MR.ln mr (k := 39) (by decide) (by decide))) ?_
      refine X_top (v := vi (M 39 x1)) (congrArg vi (MR.el mr (k := 39) (by decide) rfl)) ?_
      refine X_iaload dX12_value_123 ((MR.ar mr (k := 14) (by decide)).2.1.trans (by decide)) (((((((((((hB.1 c1).2.2.2 c2).2 c3).2 c6).2 c9).2 c12).2 c15).2 c18).2 c19).2 c20).1 c26).1 (lt_eq (((((((((((hB.1 c1).2.2.2 c2).2 c3).2 c6).2 c9).2 c12).2 c15).2 c18).2 c19).2 c20).1 c26).2.1 (MR.ln mr (k := 14) (by decide) (by decide))) ?_
      refine X_top (v := vi (M 14 (M 39 x1))) (congrArg vi (MR.el mr (k := 14) (by decide) rfl)) ?_
      exact X_ret (z := (M 14 (M 39 x1))) dX12_value_124 rfl (fun hv => vok_h hv) ⟨rfl, _, (((((((((((hB.1 c1).2.2.2 c2).2 c3).2 c6).2 c9).2 c12).2 c15).2 c18).2 c19).2 c20).1 c26).2.2, mr, mf⟩
    by_cases c27 : (M 35 x1) = 10
    · refine X_table dX12_value_23 164 141 (by rw [c27]; rfl) rfl ?_
      refine X_iload dX12_value_164 rfl ?_
      refine X_bipush dX12_value_166 (by decide) (by decide) ?_
      refine X_idivP dX12_value_168 (by decide) ?_
      refine X_istore dX12_value_169 (by decide) rfl ?_
      refine X_aload_n dX12_value_171 rfl ?_
      refine X_iload dX12_value_172 rfl ?_
      refine X_bipush dX12_value_174 (by decide) (by decide) ?_
      refine X_iremP dX12_value_176 (by decide) ?_
      refine X_invV (ci := 12) (as := [vi (((M 36 x1).tdiv 24).tmod 12)]) (st := []) okX12_use dX12_value_177 km_RX12_424 rfl rfl (Nat.le_of_ble_eq_true rfl) rfl rfl mr.1 (CT.of d 0 0 (hcl n_use_0 rfl [((M 36 x1).tdiv 24).tmod 12] _ _ _ ((((((((((((hB.1 c1).2.2.2 c2).2 c3).2 c6).2 c9).2 c12).2 c15).2 c18).2 c19).2 c20).2 c26).1 c27) mr) (Nat.le_refl _) (Nat.zero_le _) (Nat.zero_le _) (fun z28 S28 V28 hq28 => ?_))
      obtain ⟨rfl, M28, hc29, mr28, hf28⟩ := hq28
      have mf28 := MF.trans mf hf28
      refine X_aload_n dX12_value_180 rfl ?_
      refine X_getfield (ci := 12) (k := 65) (v := vi (M28 0 65)) dX12_value_181 rfl (by decide) kf_RX12_401 (congrArg vi (MR.in_ mr28 (k := 65) (by decide) rfl)) mr28.1 ?_
      refine X_if_eq dX12_value_184 (tgt := 189) rfl (fun c30 => ?_) (fun c30 => ?_)
      · refine X_iload dX12_value_189 rfl ?_
        refine X_bipush dX12_value_191 (by decide) (by decide) ?_
        refine X_iremP dX12_value_193 (by decide) ?_
        refine X_aload_n dX12_value_194 rfl ?_
        refine X_getfield (ci := 12) (k := 53) (v := vr (a 53)) dX12_value_195 rfl (by decide) kf_RX12_119 (congrArg vr (MR.ar mr28 (k := 53) (by decide)).1) mr28.1 ?_
        refine X_iload dX12_value_198 rfl ?_
        refine X_iaload dX12_value_200 ((MR.ar mr28 (k := 53) (by decide)).2.1.trans (by decide)) (hc29.1 c30).1 (lt_eq (hc29.1 c30).2.1 (MR.ln mr28 (k := 53) (by decide) (by decide))) ?_
        refine X_top (v := vi (M28 53 ((M 36 x1).tdiv 24))) (congrArg vi (MR.el mr28 (k := 53) (by decide) rfl)) ?_
        refine X_icmp_ge dX12_value_201 (tgt := 212) rfl (fun c31 => ?_) (fun c31 => ?_)
        · refine X_aload_n dX12_value_212 rfl ?_
          refine X_iload dX12_value_213 rfl ?_
          refine X_bipush dX12_value_215 (by decide) (by decide) ?_
          refine X_iremP dX12_value_217 (by decide) ?_
          refine X_iconst dX12_value_218 (by decide) ?_
          refine X_invV (ci := 12) (as := [vi (((M 36 x1).tdiv 24).tmod 12), vi (-1)]) (st := []) okX12_sees dX12_value_219 km_RX12_427 rfl rfl (Nat.le_of_ble_eq_true rfl) rfl rfl mr28.1 (CT.of d 0 0 (hcl n_sees_0 rfl [((M 36 x1).tdiv 24).tmod 12, (-1)] _ _ _ ((hc29.1 c30).2.2.1 c31) mr28) (Nat.le_refl _) (Nat.zero_le _) (Nat.zero_le _) (fun z32 S32 V32 hq32 => ?_))
          obtain ⟨rfl, M32, hc33, mr32, hf32⟩ := hq32
          have mf32 := MF.trans mf28 hf32
          exact X_ret (z := z32) dX12_value_222 rfl (fun hv => vok_h hv) ⟨rfl, _, hc33, mr32, mf32⟩
        · refine X_iload dX12_value_204 rfl ?_
          refine X_bipush dX12_value_206 (by decide) (by decide) ?_
          refine X_iremP dX12_value_208 (by decide) ?_
          refine X_goto dX12_value_209 (tgt := 222) rfl ?_
          exact X_ret (z := ((M 36 x1).tmod 24)) dX12_value_222 rfl (fun hv => vok_h hv) ⟨rfl, _, ((hc29.1 c30).2.2.2 c31), mr28, mf28⟩
      · refine X_iconst dX12_value_187 (by decide) ?_
        exact X_ret (z := 0) dX12_value_188 rfl (fun hv => vok_h hv) ⟨rfl, _, (hc29.2 c30), mr28, mf28⟩
    by_cases c34 : (M 35 x1) = 11
    · refine X_table dX12_value_23 223 200 (by rw [c34]; rfl) rfl ?_
      refine X_bipush dX12_value_223 (by decide) (by decide) ?_
      refine X_iload dX12_value_225 rfl ?_
      refine X_bipush dX12_value_227 (by decide) (by decide) ?_
      refine X_iremP dX12_value_229 (by decide) ?_
      refine X_iaddN dX12_value_230 (((((((((((((hB.1 c1).2.2.2 c2).2 c3).2 c6).2 c9).2 c12).2 c15).2 c18).2 c19).2 c20).2 c26).2 c27).1 c34).1 (((((((((((((hB.1 c1).2.2.2 c2).2 c3).2 c6).2 c9).2 c12).2 c15).2 c18).2 c19).2 c20).2 c26).2 c27).1 c34).2.1 ?_
      refine X_istore dX12_value_231 (by decide) rfl ?_
      refine X_aload_n dX12_value_233 rfl ?_
      refine X_iload dX12_value_234 rfl ?_
      refine X_invV (ci := 12) (as := [vi (100 + ((M 36 x1).tmod 48))]) (st := []) okX12_use dX12_value_236 km_RX12_424 rfl rfl (Nat.le_of_ble_eq_true rfl) rfl rfl mr.1 (CT.of d 0 0 (hcl n_use_0 rfl [100 + ((M 36 x1).tmod 48)] _ _ _ (((((((((((((hB.1 c1).2.2.2 c2).2 c3).2 c6).2 c9).2 c12).2 c15).2 c18).2 c19).2 c20).2 c26).2 c27).1 c34).2.2 mr) (Nat.le_refl _) (Nat.zero_le _) (Nat.zero_le _) (fun z35 S35 V35 hq35 => ?_))
      obtain ⟨rfl, M35, hc36, mr35, hf35⟩ := hq35
      have mf35 := MF.trans mf hf35
      refine X_aload_n dX12_value_239 rfl ?_
      refine X_getfield (ci := 12) (k := 65) (v := vi (M35 0 65)) dX12_value_240 rfl (by decide) kf_RX12_401 (congrArg vi (MR.in_ mr35 (k := 65) (by decide) rfl)) mr35.1 ?_
      refine X_if_eq dX12_value_243 (tgt := 248) rfl (fun c37 => ?_) (fun c37 => ?_)
      · refine X_aload_n dX12_value_248 rfl ?_
        refine X_getfield (ci := 12) (k := 52) (v := vr (a 52)) dX12_value_249 rfl (by decide) kf_RX12_116 (congrArg vr (MR.ar mr35 (k := 52) (by decide)).1) mr35.1 ?_
        refine X_sipush dX12_value_252 (by decide) (by decide) ?_
        refine X_aload_n dX12_value_255 rfl ?_
        refine X_getfield (ci := 12) (k := 9) (v := vi (M35 0 9)) dX12_value_256 rfl (by decide) kf_RX12_263 (congrArg vi (MR.in_ mr35 (k := 9) (by decide) rfl)) mr35.1 ?_
        refine X_imulN dX12_value_259 (hc36.1 c37).1 (hc36.1 c37).2.1 ?_
        refine X_iload dX12_value_260 rfl ?_
        refine X_iaddN dX12_value_262 (hc36.1 c37).2.2.1 (hc36.1 c37).2.2.2.1 ?_
        refine X_iaload dX12_value_263 ((MR.ar mr35 (k := 52) (by decide)).2.1.trans (by decide)) (hc36.1 c37).2.2.2.2.1 (lt_eq (hc36.1 c37).2.2.2.2.2.1 (MR.ln mr35 (k := 52) (by decide) (by decide))) ?_
        refine X_top (v := vi (M35 52 ((160 * (M35 0 9)) + (100 + ((M 36 x1).tmod 48))))) (congrArg vi (MR.el mr35 (k := 52) (by decide) rfl)) ?_
        refine X_iconst dX12_value_264 (by decide) ?_
        refine X_icmp_ne dX12_value_265 (tgt := 278) rfl (fun c38 => ?_) (fun c38 => ?_)
        · refine X_aload_n dX12_value_278 rfl ?_
          refine X_getfield (ci := 12) (k := 57) (v := vr (a 57)) dX12_value_279 rfl (by decide) kf_RX12_131 (congrArg vr (MR.ar mr35 (k := 57) (by decide)).1) mr35.1 ?_
          refine X_iload dX12_value_282 rfl ?_
          refine X_iaload dX12_value_284 ((MR.ar mr35 (k := 57) (by decide)).2.1.trans (by decide)) ((hc36.1 c37).2.2.2.2.2.2.1 c38).1 (lt_eq ((hc36.1 c37).2.2.2.2.2.2.1 c38).2.1 (MR.ln mr35 (k := 57) (by decide) (by decide))) ?_
          refine X_top (v := vi (M35 57 (M 36 x1))) (congrArg vi (MR.el mr35 (k := 57) (by decide) rfl)) ?_
          exact X_ret (z := (M35 57 (M 36 x1))) dX12_value_285 rfl (fun hv => vok_h hv) ⟨rfl, _, ((hc36.1 c37).2.2.2.2.2.2.1 c38).2.2, mr35, mf35⟩
        · refine X_aload_n dX12_value_268 rfl ?_
          refine X_iload dX12_value_269 rfl ?_
          refine X_iconst dX12_value_271 (by decide) ?_
          refine X_invV (ci := 12) (as := [vi (100 + ((M 36 x1).tmod 48)), vi 0]) (st := []) okX12_sees dX12_value_272 km_RX12_427 rfl rfl (Nat.le_of_ble_eq_true rfl) rfl rfl mr35.1 (CT.of d 0 0 (hcl n_sees_0 rfl [100 + ((M 36 x1).tmod 48), 0] _ _ _ ((hc36.1 c37).2.2.2.2.2.2.2 c38) mr35) (Nat.le_refl _) (Nat.zero_le _) (Nat.zero_le _) (fun z39 S39 V39 hq39 => ?_))
          obtain ⟨rfl, M39, hc40, mr39, hf39⟩ := hq39
          have mf39 := MF.trans mf35 hf39
          refine X_goto dX12_value_275 (tgt := 285) rfl ?_
          exact X_ret (z := z39) dX12_value_285 rfl (fun hv => vok_h hv) ⟨rfl, _, hc40, mr39, mf39⟩
      · refine X_iconst dX12_value_246 (by decide) ?_
        exact X_ret (z := 0) dX12_value_247 rfl (fun hv => vok_h hv) ⟨rfl, _, (hc36.2 c37), mr35, mf35⟩
    by_cases c41 : (M 35 x1) = 12
    · refine X_table dX12_value_23 286 263 (by rw [c41]; rfl) rfl ?_
      refine X_aload_n dX12_value_286 rfl ?_
      refine X_iload_n dX12_value_287 rfl ?_
      refine X_iload_n dX12_value_288 rfl ?_
      refine X_iload_n dX12_value_289 rfl ?_
      refine X_invV (ci := 12) (as := [vi x1, vi x2, vi x3]) (st := []) okX12_entryOf dX12_value_290 km_RX12_430 rfl rfl (Nat.le_of_ble_eq_true rfl) rfl rfl mr.1 (CT.of d 0 0 (hcl n_entryOf_0 rfl [x1, x2, x3] _ _ _ ((((((((((((((hB.1 c1).2.2.2 c2).2 c3).2 c6).2 c9).2 c12).2 c15).2 c18).2 c19).2 c20).2 c26).2 c27).2 c34).1 c41) mr) (Nat.le_refl _) (Nat.zero_le _) (Nat.zero_le _) (fun z42 S42 V42 hq42 => ?_))
      obtain ⟨rfl, M42, hc43, mr42, hf42⟩ := hq42
      have mf42 := MF.trans mf hf42
      exact X_ret (z := z42) dX12_value_293 rfl (fun hv => vok_h hv) ⟨rfl, _, hc43, mr42, mf42⟩
    refine X_table dX12_value_23 294 271 (tbl_df (by omega)) rfl ?_
    refine X_aload_n dX12_value_294 rfl ?_
    refine X_iload_n dX12_value_295 rfl ?_
    refine X_iload_n dX12_value_296 rfl ?_
    refine X_iload_n dX12_value_297 rfl ?_
    refine X_invV (ci := 12) (as := [vi x1, vi x2, vi x3]) (st := []) okX12_both dX12_value_298 km_RX12_433 rfl rfl (Nat.le_of_ble_eq_true rfl) rfl rfl mr.1 (CT.of d 0 0 (hcl n_both_0 rfl [x1, x2, x3] _ _ _ ((((((((((((((hB.1 c1).2.2.2 c2).2 c3).2 c6).2 c9).2 c12).2 c15).2 c18).2 c19).2 c20).2 c26).2 c27).2 c34).2 c41) mr) (Nat.le_refl _) (Nat.zero_le _) (Nat.zero_le _) (fun z44 S44 V44 hq44 => ?_))
    obtain ⟨rfl, M44, hc45, mr44, hf44⟩ := hq44
    have mf44 := MF.trans mf hf44
    exact X_ret (z := z44) dX12_value_301 rfl (fun hv => vok_h hv) ⟨rfl, _, hc45, mr44, mf44⟩
  · refine X_iconst dX12_value_7 (by decide) ?_
    exact X_ret (z := 0) dX12_value_8 rfl (fun hv => vok_h hv) ⟨rfl, _, (hB.2 c1), mr, mf⟩
def B_entryOf_0 (rc : MP) (cl : MC) (Q : Int → Mem → Prop) (d : Nat) (x1 x2 x3 : Int) (M : Mem) : Prop := 0 ≤ x1 ∧ x1 < 31000 ∧ cl n_use_0 [((M 36 x1).tdiv 4).tmod 12] M (fun z1 M1 => 0 ≤ x1 ∧ x1 < 31000 ∧ cl n_value_0 [M1 37 x1, x2, x3] M1 (fun z3 M3 => ((M3 0 65) = 0 → (z3 < 0 → cl n_failing_0 [4, (-1)] M3 (fun z7 M7 => Q z7 M7)) ∧ (¬ (z3 < 0) → 0 ≤ (M 36 x1) ∧ (M 36 x1) < 480 ∧ (z3 < (M3 24 (M 36 x1)) → ((M3 55 (M 36 x1)) ≤ z3 → cl n_sees_0 [((M 36 x1).tdiv 4).tmod 12, 0] M3 (fun z11 M11 => Q z11 M11)) ∧ (¬ ((M3 55 (M 36 x1)) ≤ z3) → -2147483648 ≤ 12 * (M 36 x1) ∧ 12 * (M 36 x1) ≤ 2147483647 ∧ -2147483648 ≤ (12 * (M 36 x1)) + z3 ∧ (12 * (M 36 x1)) + z3 ≤ 2147483647 ∧ 0 ≤ ((12 * (M 36 x1)) + z3) ∧ ((12 * (M 36 x1)) + z3) < 5760 ∧ Q (M3 56 ((12 * (M 36 x1)) + z3)) M3)) ∧ (¬ (z3 < (M3 24 (M 36 x1))) → cl n_failing_0 [4, (-1)] M3 (fun z13 M13 => Q z13 M13)))) ∧ (¬ ((M3 0 65) = 0) → Q 0 M3)))
set_option maxRecDepth 10000 in
theorem s_entryOf_0 {l : Launch} {G : GT} {m : Int} {a : Int → Int} {d mc ms : Nat} {S : Sh} {Q : Int → Mem → Prop} {rc : MP} {cl : MC} {V0 V M : Mem} {x1 x2 x3 : Int} (hrc : RCok l G m a S V0 Q d mc ms rc) (hcl : CLok l G m a S d cl) (mr : MR m a S V M) (mf : MF m a V0 V) (hB : B_entryOf_0 rc cl Q d x1 x2 x3 M) : XJ l G bX12_entryOf (Qm m a S V0 Q) (d + 1) 0 [vr m, vi x1, vi x2, vi x3, vu, vu, vu] [] S V mc ms := by
  unfold B_entryOf_0 at hB
  refine X_aload_n dX12_entryOf_0 rfl ?_
  refine X_getfield (ci := 12) (k := 36) (v := vr (a 36)) dX12_entryOf_1 rfl (by decide) kf_RX12_95 (congrArg vr (MR.ar mr (k := 36) (by decide)).1) mr.1 ?_
  refine X_iload_n dX12_entryOf_4 rfl ?_
  refine X_iaload dX12_entryOf_5 ((MR.ar mr (k := 36) (by decide)).2.1.trans (by decide)) hB.1 (lt_eq hB.2.1 (MR.ln mr (k := 36) (by decide) (by decide))) ?_
  refine X_top (v := vi (M 36 x1)) (congrArg vi (MR.el mr (k := 36) (by decide) rfl)) ?_
  refine X_istore dX12_entryOf_6 (by decide) rfl ?_
  refine X_iload dX12_entryOf_8 rfl ?_
  refine X_iconst dX12_entryOf_10 (by decide) ?_
  refine X_idivP dX12_entryOf_11 (by decide) ?_
  refine X_istore dX12_entryOf_12 (by decide) rfl ?_
  refine X_aload_n dX12_entryOf_14 rfl ?_
  refine X_iload dX12_entryOf_15 rfl ?_
  refine X_bipush dX12_entryOf_17 (by decide) (by decide) ?_
  refine X_iremP dX12_entryOf_19 (by decide) ?_
  refine X_invV (ci := 12) (as := [vi (((M 36 x1).tdiv 4).tmod 12)]) (st := []) okX12_use dX12_entryOf_20 km_RX12_424 rfl rfl (Nat.le_of_ble_eq_true rfl) rfl rfl mr.1 (CT.of d 0 0 (hcl n_use_0 rfl [((M 36 x1).tdiv 4).tmod 12] _ _ _ hB.2.2 mr) (Nat.le_refl _) (Nat.zero_le _) (Nat.zero_le _) (fun z1 S1 V1 hq1 => ?_))
  obtain ⟨rfl, M1, hc2, mr1, hf1⟩ := hq1
  have mf1 := MF.trans mf hf1
  refine X_aload_n dX12_entryOf_23 rfl ?_
  refine X_aload_n dX12_entryOf_24 rfl ?_
  refine X_getfield (ci := 12) (k := 37) (v := vr (a 37)) dX12_entryOf_25 rfl (by decide) kf_RX12_98 (congrArg vr (MR.ar mr1 (k := 37) (by decide)).1) mr1.1 ?_
  refine X_iload_n dX12_entryOf_28 rfl ?_
  refine X_iaload dX12_entryOf_29 ((MR.ar mr1 (k := 37) (by decide)).2.1.trans (by decide)) hc2.1 (lt_eq hc2.2.1 (MR.ln mr1 (k := 37) (by decide) (by decide))) ?_
  refine X_top (v := vi (M1 37 x1)) (congrArg vi (MR.el mr1 (k := 37) (by decide) rfl)) ?_
  refine X_iload_n dX12_entryOf_30 rfl ?_
  refine X_iload_n dX12_entryOf_31 rfl ?_
  refine X_invV (ci := 12) (as := [vi (M1 37 x1), vi x2, vi x3]) (st := []) okX12_value dX12_entryOf_32 km_RX12_422 rfl rfl (Nat.le_of_ble_eq_true rfl) rfl rfl mr1.1 (CT.of d 0 0 (hcl n_value_0 rfl [M1 37 x1, x2, x3] _ _ _ hc2.2.2 mr1) (Nat.le_refl _) (Nat.zero_le _) (Nat.zero_le _) (fun z3 S3 V3 hq3 => ?_))
  obtain ⟨rfl, M3, hc4, mr3, hf3⟩ := hq3
  have mf3 := MF.trans mf1 hf3
  refine X_istore dX12_entryOf_35 (by decide) rfl ?_
  refine X_aload_n dX12_entryOf_37 rfl ?_
  refine X_getfield (ci := 12) (k := 65) (v := vi (M3 0 65)) dX12_entryOf_38 rfl (by decide) kf_RX12_401 (congrArg vi (MR.in_ mr3 (k := 65) (by decide) rfl)) mr3.1 ?_
  refine X_if_eq dX12_entryOf_41 (tgt := 46) rfl (fun c5 => ?_) (fun c5 => ?_)
  · refine X_iload dX12_entryOf_46 rfl ?_
    refine X_if_lt dX12_entryOf_48 (tgt := 63) rfl (fun c6 => ?_) (fun c6 => ?_)
    · refine X_aload_n dX12_entryOf_63 rfl ?_
      refine X_iconst dX12_entryOf_64 (by decide) ?_
      refine X_iconst dX12_entryOf_65 (by decide) ?_
      refine X_invV (ci := 12) (as := [vi 4, vi (-1)]) (st := []) okX12_failing dX12_entryOf_66 km_RX12_407 rfl rfl (Nat.le_of_ble_eq_true rfl) rfl rfl mr3.1 (CT.of d 0 0 (hcl n_failing_0 rfl [4, (-1)] _ _ _ ((hc4.1 c5).1 c6) mr3) (Nat.le_refl _) (Nat.zero_le _) (Nat.zero_le _) (fun z7 S7 V7 hq7 => ?_))
      obtain ⟨rfl, M7, hc8, mr7, hf7⟩ := hq7
      have mf7 := MF.trans mf3 hf7
      exact X_ret (z := z7) dX12_entryOf_69 rfl (fun hv => vok_h hv) ⟨rfl, _, hc8, mr7, mf7⟩
    · refine X_iload dX12_entryOf_51 rfl ?_
      refine X_aload_n dX12_entryOf_53 rfl ?_
      refine X_getfield (ci := 12) (k := 24) (v := vr (a 24)) dX12_entryOf_54 rfl (by decide) kf_RX12_59 (congrArg vr (MR.ar mr3 (k := 24) (by decide)).1) mr3.1 ?_
      refine X_iload dX12_entryOf_57 rfl ?_
      refine X_iaload dX12_entryOf_59 ((MR.ar mr3 (k := 24) (by decide)).2.1.trans (by decide)) ((hc4.1 c5).2 c6).1 (lt_eq ((hc4.1 c5).2 c6).2.1 (MR.ln mr3 (k := 24) (by decide) (by decide))) ?_
      refine X_top (v := vi (M3 24 (M 36 x1))) (congrArg vi (MR.el mr3 (k := 24) (by decide) rfl)) ?_
      refine X_icmp_lt dX12_entryOf_60 (tgt := 70) rfl (fun c9 => ?_) (fun c9 => ?_)
      · refine X_iload dX12_entryOf_70 rfl ?_
        refine X_aload_n dX12_entryOf_72 rfl ?_
        refine X_getfield (ci := 12) (k := 55) (v := vr (a 55)) dX12_entryOf_73 rfl (by decide) kf_RX12_125 (congrArg vr (MR.ar mr3 (k := 55) (by decide)).1) mr3.1 ?_
        refine X_iload dX12_entryOf_76 rfl ?_
        refine X_iaload dX12_entryOf_78 ((MR.ar mr3 (k := 55) (by decide)).2.1.trans (by decide)) ((hc4.1 c5).2 c6).1 (lt_eq ((hc4.1 c5).2 c6).2.1 (MR.ln mr3 (k := 55) (by decide) (by decide))) ?_
        refine X_top (v := vi (M3 55 (M 36 x1))) (congrArg vi (MR.el mr3 (k := 55) (by decide) rfl)) ?_
        refine X_icmp_ge dX12_entryOf_79 (tgt := 98) rfl (fun c10 => ?_) (fun c10 => ?_)
        · refine X_aload_n dX12_entryOf_98 rfl ?_
          refine X_iload dX12_entryOf_99 rfl ?_
          refine X_bipush dX12_entryOf_101 (by decide) (by decide) ?_
          refine X_iremP dX12_entryOf_103 (by decide) ?_
          refine X_iconst dX12_entryOf_104 (by decide) ?_
          refine X_invV (ci := 12) (as := [vi (((M 36 x1).tdiv 4).tmod 12), vi 0]) (st := []) okX12_sees dX12_entryOf_105 km_RX12_427 rfl rfl (Nat.le_of_ble_eq_true rfl) rfl rfl mr3.1 (CT.of d 0 0 (hcl n_sees_0 rfl [((M 36 x1).tdiv 4).tmod 12, 0] _ _ _ ((((hc4.1 c5).2 c6).2.2.1 c9).1 c10) mr3) (Nat.le_refl _) (Nat.zero_le _) (Nat.zero_le _) (fun z11 S11 V11 hq11 => ?_))
          obtain ⟨rfl, M11, hc12, mr11, hf11⟩ := hq11
          have mf11 := MF.trans mf3 hf11
          exact X_ret (z := z11) dX12_entryOf_108 rfl (fun hv => vok_h hv) ⟨rfl, _, hc12, mr11, mf11⟩
        · refine X_aload_n dX12_entryOf_82 rfl ?_
          refine X_getfield (ci := 12) (k := 56) (v := vr (a 56)) dX12_entryOf_83 rfl (by decide) kf_RX12_128 (congrArg vr (MR.ar mr3 (k := 56) (by decide)).1) mr3.1 ?_
          refine X_bipush dX12_entryOf_86 (by decide) (by decide) ?_
          refine X_iload dX12_entryOf_88 rfl ?_
          refine X_imulN dX12_entryOf_90 ((((hc4.1 c5).2 c6).2.2.1 c9).2 c10).1 ((((hc4.1 c5).2 c6).2.2.1 c9).2 c10).2.1 ?_
          refine X_iload dX12_entryOf_91 rfl ?_
          refine X_iaddN dX12_entryOf_93 ((((hc4.1 c5).2 c6).2.2.1 c9).2 c10).2.2.1 ((((hc4.1 c5).2 c6).2.2.1 c9).2 c10).2.2.2.1 ?_
          refine X_iaload dX12_entryOf_94 ((MR.ar mr3 (k := 56) (by decide)).2.1.trans (by decide)) ((((hc4.1 c5).2 c6).2.2.1 c9).2 c10).2.2.2.2.1 (lt_eq ((((hc4.1 c5).2 c6).2.2.1 c9).2 c10).2.2.2.2.2.1 (MR.ln mr3 (k := 56) (by decide) (by decide))) ?_
          refine X_top (v := vi (M3 56 ((12 * (M 36 x1)) + z3))) (congrArg vi (MR.el mr3 (k := 56) (by decide) rfl)) ?_
          refine X_goto dX12_entryOf_95 (tgt := 108) rfl ?_
          exact X_ret (z := (M3 56 ((12 * (M 36 x1)) + z3))) dX12_entryOf_108 rfl (fun hv => vok_h hv) ⟨rfl, _, ((((hc4.1 c5).2 c6).2.2.1 c9).2 c10).2.2.2.2.2.2, mr3, mf3⟩
      · refine X_aload_n dX12_entryOf_63 rfl ?_
        refine X_iconst dX12_entryOf_64 (by decide) ?_
        refine X_iconst dX12_entryOf_65 (by decide) ?_
        refine X_invV (ci := 12) (as := [vi 4, vi (-1)]) (st := []) okX12_failing dX12_entryOf_66 km_RX12_407 rfl rfl (Nat.le_of_ble_eq_true rfl) rfl rfl mr3.1 (CT.of d 0 0 (hcl n_failing_0 rfl [4, (-1)] _ _ _ (((hc4.1 c5).2 c6).2.2.2 c9) mr3) (Nat.le_refl _) (Nat.zero_le _) (Nat.zero_le _) (fun z13 S13 V13 hq13 => ?_))
        obtain ⟨rfl, M13, hc14, mr13, hf13⟩ := hq13
        have mf13 := MF.trans mf3 hf13
        exact X_ret (z := z13) dX12_entryOf_69 rfl (fun hv => vok_h hv) ⟨rfl, _, hc14, mr13, mf13⟩
  · refine X_iconst dX12_entryOf_44 (by decide) ?_
    exact X_ret (z := 0) dX12_entryOf_45 rfl (fun hv => vok_h hv) ⟨rfl, _, (hc4.2 c5), mr3, mf3⟩
def B_both_0 (rc : MP) (cl : MC) (Q : Int → Mem → Prop) (d : Nat) (x1 x2 x3 : Int) (M : Mem) : Prop := rc n_both_3 [x1, x2, x3, x1] M
set_option maxRecDepth 10000 in
theorem s_both_0 {l : Launch} {G : GT} {m : Int} {a : Int → Int} {d mc ms : Nat} {S : Sh} {Q : Int → Mem → Prop} {rc : MP} {cl : MC} {V0 V M : Mem} {x1 x2 x3 : Int} (hrc : RCok l G m a S V0 Q d mc ms rc) (hcl : CLok l G m a S d cl) (mr : MR m a S V M) (mf : MF m a V0 V) (hB : B_both_0 rc cl Q d x1 x2 x3 M) : XJ l G bX12_both (Qm m a S V0 Q) (d + 1) 0 [vr m, vi x1, vi x2, vi x3, vu, vu] [] S V mc ms := by
  unfold B_both_0 at hB
  refine X_iload_n dX12_both_0 rfl ?_
  refine X_istore dX12_both_1 (by decide) rfl ?_
  exact hrc n_both_3 [x1, x2, x3, x1] _ _ hB mr mf
def B_both_3 (rc : MP) (cl : MC) (Q : Int → Mem → Prop) (d : Nat) (x1 x2 x3 x4 : Int) (M : Mem) : Prop := 0 ≤ x4 ∧ x4 < 31000 ∧ 0 ≤ (M 36 x4) ∧ (M 36 x4) < 31000 ∧ cl n_isTwo_0 [M 35 (M 36 x4)] M (fun z1 M1 => (z1 = 0 → 0 ≤ x4 ∧ x4 < 31000 ∧ cl n_value_0 [M1 36 x4, x2, x3] M1 (fun z4 M4 => rc n_both_48 [x1, x2, x3, x4, z4] M4)) ∧ (¬ (z1 = 0) → 0 ≤ x4 ∧ x4 < 31000 ∧ rc n_both_3 [x1, x2, x3, M1 36 x4] M1))
set_option maxRecDepth 10000 in
theorem s_both_3 {l : Launch} {G : GT} {m : Int} {a : Int → Int} {d mc ms : Nat} {S : Sh} {Q : Int → Mem → Prop} {rc : MP} {cl : MC} {V0 V M : Mem} {x1 x2 x3 x4 : Int} (hrc : RCok l G m a S V0 Q d mc ms rc) (hcl : CLok l G m a S d cl) (mr : MR m a S V M) (mf : MF m a V0 V) (hB : B_both_3 rc cl Q d x1 x2 x3 x4 M) : XJ l G bX12_both (Qm m a S V0 Q) (d + 1) 3 [vr m, vi x1, vi x2, vi x3, vi x4, vu] [] S V mc ms := by
  unfold B_both_3 at hB
  refine X_aload_n dX12_both_3 rfl ?_
  refine X_getfield (ci := 12) (k := 35) (v := vr (a 35)) dX12_both_4 rfl (by decide) kf_RX12_92 (congrArg vr (MR.ar mr (k := 35) (by decide)).1) mr.1 ?_
  refine X_aload_n dX12_both_7 rfl ?_
  refine X_getfield (ci := 12) (k := 36) (v := vr (a 36)) dX12_both_8 rfl (by decide) kf_RX12_95 (congrArg vr (MR.ar mr (k := 36) (by decide)).1) mr.1 ?_
  refine X_iload dX12_both_11 rfl ?_
  refine X_iaload dX12_both_13 ((MR.ar mr (k := 36) (by decide)).2.1.trans (by decide)) hB.1 (lt_eq hB.2.1 (MR.ln mr (k := 36) (by decide) (by decide))) ?_
  refine X_top (v := vi (M 36 x4)) (congrArg vi (MR.el mr (k := 36) (by decide) rfl)) ?_
  refine X_iaload dX12_both_14 ((MR.ar mr (k := 35) (by decide)).2.1.trans (by decide)) hB.2.2.1 (lt_eq hB.2.2.2.1 (MR.ln mr (k := 35) (by decide) (by decide))) ?_
  refine X_top (v := vi (M 35 (M 36 x4))) (congrArg vi (MR.el mr (k := 35) (by decide) rfl)) ?_
  refine X_invS (as := [vi (M 35 (M 36 x4))]) (st := []) okX12_isTwo dX12_both_15 km_RX12_272 rfl rfl (Nat.le_of_ble_eq_true rfl) (CT.of d 0 0 (hcl n_isTwo_0 rfl [M 35 (M 36 x4)] _ _ _ hB.2.2.2.2 mr) (Nat.le_refl _) (Nat.zero_le _) (Nat.zero_le _) (fun z1 S1 V1 hq1 => ?_))
  obtain ⟨rfl, M1, hc2, mr1, hf1⟩ := hq1
  have mf1 := MF.trans mf hf1
  refine X_if_eq dX12_both_18 (tgt := 33) rfl (fun c3 => ?_) (fun c3 => ?_)
  · refine X_aload_n dX12_both_33 rfl ?_
    refine X_aload_n dX12_both_34 rfl ?_
    refine X_getfield (ci := 12) (k := 36) (v := vr (a 36)) dX12_both_35 rfl (by decide) kf_RX12_95 (congrArg vr (MR.ar mr1 (k := 36) (by decide)).1) mr1.1 ?_
    refine X_iload dX12_both_38 rfl ?_
    refine X_iaload dX12_both_40 ((MR.ar mr1 (k := 36) (by decide)).2.1.trans (by decide)) (hc2.1 c3).1 (lt_eq (hc2.1 c3).2.1 (MR.ln mr1 (k := 36) (by decide) (by decide))) ?_
    refine X_top (v := vi (M1 36 x4)) (congrArg vi (MR.el mr1 (k := 36) (by decide) rfl)) ?_
    refine X_iload_n dX12_both_41 rfl ?_
    refine X_iload_n dX12_both_42 rfl ?_
    refine X_invV (ci := 12) (as := [vi (M1 36 x4), vi x2, vi x3]) (st := []) okX12_value dX12_both_43 km_RX12_422 rfl rfl (Nat.le_of_ble_eq_true rfl) rfl rfl mr1.1 (CT.of d 0 0 (hcl n_value_0 rfl [M1 36 x4, x2, x3] _ _ _ (hc2.1 c3).2.2 mr1) (Nat.le_refl _) (Nat.zero_le _) (Nat.zero_le _) (fun z4 S4 V4 hq4 => ?_))
    obtain ⟨rfl, M4, hc5, mr4, hf4⟩ := hq4
    have mf4 := MF.trans mf1 hf4
    refine X_istore dX12_both_46 (by decide) rfl ?_
    exact hrc n_both_48 [x1, x2, x3, x4, z4] _ _ hc5 mr4 mf4
  · refine X_aload_n dX12_both_21 rfl ?_
    refine X_getfield (ci := 12) (k := 36) (v := vr (a 36)) dX12_both_22 rfl (by decide) kf_RX12_95 (congrArg vr (MR.ar mr1 (k := 36) (by decide)).1) mr1.1 ?_
    refine X_iload dX12_both_25 rfl ?_
    refine X_iaload dX12_both_27 ((MR.ar mr1 (k := 36) (by decide)).2.1.trans (by decide)) (hc2.2 c3).1 (lt_eq (hc2.2 c3).2.1 (MR.ln mr1 (k := 36) (by decide) (by decide))) ?_
    refine X_top (v := vi (M1 36 x4)) (congrArg vi (MR.el mr1 (k := 36) (by decide) rfl)) ?_
    refine X_istore dX12_both_28 (by decide) rfl ?_
    refine X_goto dX12_both_30 (tgt := 3) rfl ?_
    exact hrc n_both_3 [x1, x2, x3, M1 36 x4] _ _ (hc2.2 c3).2.2 mr1 mf1
def B_both_48 (rc : MP) (cl : MC) (Q : Int → Mem → Prop) (d : Nat) (x1 x2 x3 x4 x5 : Int) (M : Mem) : Prop := 0 ≤ x4 ∧ x4 < 31000 ∧ cl n_value_0 [M 37 x4, x2, x3] M (fun z1 M1 => cl n_joined_0 [M 35 x4, x5, z1] M1 (fun z3 M3 => ((M3 0 65) = 0 → (x4 ≠ x1 → 0 ≤ x4 ∧ x4 < 31000 ∧ rc n_both_48 [x1, x2, x3, M3 38 x4, z3] M3) ∧ (¬ (x4 ≠ x1) → Q z3 M3)) ∧ (¬ ((M3 0 65) = 0) → Q 0 M3)))
set_option maxRecDepth 10000 in
theorem s_both_48 {l : Launch} {G : GT} {m : Int} {a : Int → Int} {d mc ms : Nat} {S : Sh} {Q : Int → Mem → Prop} {rc : MP} {cl : MC} {V0 V M : Mem} {x1 x2 x3 x4 x5 : Int} (hrc : RCok l G m a S V0 Q d mc ms rc) (hcl : CLok l G m a S d cl) (mr : MR m a S V M) (mf : MF m a V0 V) (hB : B_both_48 rc cl Q d x1 x2 x3 x4 x5 M) : XJ l G bX12_both (Qm m a S V0 Q) (d + 1) 48 [vr m, vi x1, vi x2, vi x3, vi x4, vi x5] [] S V mc ms := by
  unfold B_both_48 at hB
  refine X_aload_n dX12_both_48 rfl ?_
  refine X_aload_n dX12_both_49 rfl ?_
  refine X_getfield (ci := 12) (k := 35) (v := vr (a 35)) dX12_both_50 rfl (by decide) kf_RX12_92 (congrArg vr (MR.ar mr (k := 35) (by decide)).1) mr.1 ?_
  refine X_iload dX12_both_53 rfl ?_
  refine X_iaload dX12_both_55 ((MR.ar mr (k := 35) (by decide)).2.1.trans (by decide)) hB.1 (lt_eq hB.2.1 (MR.ln mr (k := 35) (by decide) (by decide))) ?_
  refine X_top (v := vi (M 35 x4)) (congrArg vi (MR.el mr (k := 35) (by decide) rfl)) ?_
  refine X_iload dX12_both_56 rfl ?_
  refine X_aload_n dX12_both_58 rfl ?_
  refine X_aload_n dX12_both_59 rfl ?_
  refine X_getfield (ci := 12) (k := 37) (v := vr (a 37)) dX12_both_60 rfl (by decide) kf_RX12_98 (congrArg vr (MR.ar mr (k := 37) (by decide)).1) mr.1 ?_
  refine X_iload dX12_both_63 rfl ?_
  refine X_iaload dX12_both_65 ((MR.ar mr (k := 37) (by decide)).2.1.trans (by decide)) hB.1 (lt_eq hB.2.1 (MR.ln mr (k := 37) (by decide) (by decide))) ?_
  refine X_top (v := vi (M 37 x4)) (congrArg vi (MR.el mr (k := 37) (by decide) rfl)) ?_
  refine X_iload_n dX12_both_66 rfl ?_
  refine X_iload_n dX12_both_67 rfl ?_
  refine X_invV (ci := 12) (as := [vi (M 37 x4), vi x2, vi x3]) (st := [vi x5, vi (M 35 x4), vr m]) okX12_value dX12_both_68 km_RX12_422 rfl rfl (Nat.le_of_ble_eq_true rfl) rfl rfl mr.1 (CT.of d 0 0 (hcl n_value_0 rfl [M 37 x4, x2, x3] _ _ _ hB.2.2 mr) (Nat.le_refl _) (Nat.zero_le _) (Nat.zero_le _) (fun z1 S1 V1 hq1 => ?_))
  obtain ⟨rfl, M1, hc2, mr1, hf1⟩ := hq1
  have mf1 := MF.trans mf hf1
  refine X_invV (ci := 12) (as := [vi (M 35 x4), vi x5, vi z1]) (st := []) okX12_joined dX12_both_71 km_RX12_436 rfl rfl (Nat.le_of_ble_eq_true rfl) rfl rfl mr1.1 (CT.of d 0 0 (hcl n_joined_0 rfl [M 35 x4, x5, z1] _ _ _ hc2 mr1) (Nat.le_refl _) (Nat.zero_le _) (Nat.zero_le _) (fun z3 S3 V3 hq3 => ?_))
  obtain ⟨rfl, M3, hc4, mr3, hf3⟩ := hq3
  have mf3 := MF.trans mf1 hf3
  refine X_istore dX12_both_74 (by decide) rfl ?_
  refine X_aload_n dX12_both_76 rfl ?_
  refine X_getfield (ci := 12) (k := 65) (v := vi (M3 0 65)) dX12_both_77 rfl (by decide) kf_RX12_401 (congrArg vi (MR.in_ mr3 (k := 65) (by decide) rfl)) mr3.1 ?_
  refine X_if_eq dX12_both_80 (tgt := 85) rfl (fun c5 => ?_) (fun c5 => ?_)
  · refine X_iload dX12_both_85 rfl ?_
    refine X_iload_n dX12_both_87 rfl ?_
    refine X_icmp_ne dX12_both_88 (tgt := 94) rfl (fun c6 => ?_) (fun c6 => ?_)
    · refine X_aload_n dX12_both_94 rfl ?_
      refine X_getfield (ci := 12) (k := 38) (v := vr (a 38)) dX12_both_95 rfl (by decide) kf_RX12_101 (congrArg vr (MR.ar mr3 (k := 38) (by decide)).1) mr3.1 ?_
      refine X_iload dX12_both_98 rfl ?_
      refine X_iaload dX12_both_100 ((MR.ar mr3 (k := 38) (by decide)).2.1.trans (by decide)) ((hc4.1 c5).1 c6).1 (lt_eq ((hc4.1 c5).1 c6).2.1 (MR.ln mr3 (k := 38) (by decide) (by decide))) ?_
      refine X_top (v := vi (M3 38 x4)) (congrArg vi (MR.el mr3 (k := 38) (by decide) rfl)) ?_
      refine X_istore dX12_both_101 (by decide) rfl ?_
      refine X_goto dX12_both_103 (tgt := 48) rfl ?_
      exact hrc n_both_48 [x1, x2, x3, M3 38 x4, z3] _ _ ((hc4.1 c5).1 c6).2.2 mr3 mf3
    · refine X_iload dX12_both_91 rfl ?_
      exact X_ret (z := z3) dX12_both_93 rfl (fun hv => vok_h hv) ⟨rfl, _, ((hc4.1 c5).2 c6), mr3, mf3⟩
  · refine X_iconst dX12_both_83 (by decide) ?_
    exact X_ret (z := 0) dX12_both_84 rfl (fun hv => vok_h hv) ⟨rfl, _, (hc4.2 c5), mr3, mf3⟩
def B_joined_0 (rc : MP) (cl : MC) (Q : Int → Mem → Prop) (d : Nat) (x1 x2 x3 : Int) (M : Mem) : Prop := ((M 0 65) = 0 → (x1 = 2 → Q (wr (x2 + x3)) M) ∧ (¬ x1 = 2 → (x1 = 3 → Q (wr (x2 - x3)) M) ∧ (¬ x1 = 3 → (x1 = 4 → Q (wr (x2 * x3)) M) ∧ (¬ x1 = 4 → (x3 ≠ 0 → (x3 ≠ (-1) → x3 ≠ 0 ∧ Q (wr (x2.tdiv x3)) M) ∧ (¬ (x3 ≠ (-1)) → Q (wr (-x2)) M)) ∧ (¬ (x3 ≠ 0) → cl n_failing_0 [4, (-1)] M (fun z7 M7 => Q z7 M7)))))) ∧ (¬ ((M 0 65) = 0) → Q 0 M)
set_option maxRecDepth 10000 in
theorem s_joined_0 {l : Launch} {G : GT} {m : Int} {a : Int → Int} {d mc ms : Nat} {S : Sh} {Q : Int → Mem → Prop} {rc : MP} {cl : MC} {V0 V M : Mem} {x1 x2 x3 : Int} (hrc : RCok l G m a S V0 Q d mc ms rc) (hcl : CLok l G m a S d cl) (mr : MR m a S V M) (mf : MF m a V0 V) (hB : B_joined_0 rc cl Q d x1 x2 x3 M) : XJ l G bX12_joined (Qm m a S V0 Q) (d + 1) 0 [vr m, vi x1, vi x2, vi x3] [] S V mc ms := by
  unfold B_joined_0 at hB
  refine X_aload_n dX12_joined_0 rfl ?_
  refine X_getfield (ci := 12) (k := 65) (v := vi (M 0 65)) dX12_joined_1 rfl (by decide) kf_RX12_401 (congrArg vi (MR.in_ mr (k := 65) (by decide) rfl)) mr.1 ?_
  refine X_if_eq dX12_joined_4 (tgt := 9) rfl (fun c1 => ?_) (fun c1 => ?_)
  · refine X_iload_n dX12_joined_9 rfl ?_
    by_cases c2 : x1 = 2
    · refine X_table dX12_joined_10 36 26 (by rw [c2]; rfl) rfl ?_
      refine X_iload_n dX12_joined_36 rfl ?_
      refine X_iload_n dX12_joined_37 rfl ?_
      refine X_iadd dX12_joined_38 ?_
      exact X_ret (z := (wr (x2 + x3))) dX12_joined_39 rfl (fun hv => vok_h hv) ⟨rfl, _, ((hB.1 c1).1 c2), mr, mf⟩
    by_cases c3 : x1 = 3
    · refine X_table dX12_joined_10 40 30 (by rw [c3]; rfl) rfl ?_
      refine X_iload_n dX12_joined_40 rfl ?_
      refine X_iload_n dX12_joined_41 rfl ?_
      refine X_isub dX12_joined_42 ?_
      exact X_ret (z := (wr (x2 - x3))) dX12_joined_43 rfl (fun hv => vok_h hv) ⟨rfl, _, (((hB.1 c1).2 c2).1 c3), mr, mf⟩
    by_cases c4 : x1 = 4
    · refine X_table dX12_joined_10 44 34 (by rw [c4]; rfl) rfl ?_
      refine X_iload_n dX12_joined_44 rfl ?_
      refine X_iload_n dX12_joined_45 rfl ?_
      refine X_imul dX12_joined_46 ?_
      exact X_ret (z := (wr (x2 * x3))) dX12_joined_47 rfl (fun hv => vok_h hv) ⟨rfl, _, ((((hB.1 c1).2 c2).2 c3).1 c4), mr, mf⟩
    refine X_table dX12_joined_10 48 38 (tbl_df (by omega)) rfl ?_
    refine X_iload_n dX12_joined_48 rfl ?_
    refine X_if_ne dX12_joined_49 (tgt := 59) rfl (fun c5 => ?_) (fun c5 => ?_)
    · refine X_iload_n dX12_joined_59 rfl ?_
      refine X_iconst dX12_joined_60 (by decide) ?_
      refine X_icmp_ne dX12_joined_61 (tgt := 69) rfl (fun c6 => ?_) (fun c6 => ?_)
      · refine X_iload_n dX12_joined_69 rfl ?_
        refine X_iload_n dX12_joined_70 rfl ?_
        refine X_idiv dX12_joined_71 ((((((hB.1 c1).2 c2).2 c3).2 c4).1 c5).1 c6).1 ?_
        exact X_ret (z := (wr (x2.tdiv x3))) dX12_joined_72 rfl (fun hv => vok_h hv) ⟨rfl, _, ((((((hB.1 c1).2 c2).2 c3).2 c4).1 c5).1 c6).2, mr, mf⟩
      · refine X_iload_n dX12_joined_64 rfl ?_
        refine X_ineg dX12_joined_65 ?_
        refine X_goto dX12_joined_66 (tgt := 72) rfl ?_
        exact X_ret (z := (wr (-x2))) dX12_joined_72 rfl (fun hv => vok_h hv) ⟨rfl, _, ((((((hB.1 c1).2 c2).2 c3).2 c4).1 c5).2 c6), mr, mf⟩
    · refine X_aload_n dX12_joined_52 rfl ?_
      refine X_iconst dX12_joined_53 (by decide) ?_
      refine X_iconst dX12_joined_54 (by decide) ?_
      refine X_invV (ci := 12) (as := [vi 4, vi (-1)]) (st := []) okX12_failing dX12_joined_55 km_RX12_407 rfl rfl (Nat.le_of_ble_eq_true rfl) rfl rfl mr.1 (CT.of d 0 0 (hcl n_failing_0 rfl [4, (-1)] _ _ _ (((((hB.1 c1).2 c2).2 c3).2 c4).2 c5) mr) (Nat.le_refl _) (Nat.zero_le _) (Nat.zero_le _) (fun z7 S7 V7 hq7 => ?_))
      obtain ⟨rfl, M7, hc8, mr7, hf7⟩ := hq7
      have mf7 := MF.trans mf hf7
      exact X_ret (z := z7) dX12_joined_58 rfl (fun hv => vok_h hv) ⟨rfl, _, hc8, mr7, mf7⟩
  · refine X_iconst dX12_joined_7 (by decide) ?_
    exact X_ret (z := 0) dX12_joined_8 rfl (fun hv => vok_h hv) ⟨rfl, _, (hB.2 c1), mr, mf⟩
def B_isEnum_0 (rc : MP) (cl : MC) (Q : Int → Mem → Prop) (d : Nat) (x1 x2 : Int) (M : Mem) : Prop := (x1 < 0 → Q 0 M) ∧ (¬ (x1 < 0) → ((M 0 8) ≤ x1 → Q 0 M) ∧ (¬ ((M 0 8) ≤ x1) → (x2 < 0 → Q 0 M) ∧ (¬ (x2 < 0) → 0 ≤ x1 ∧ x1 < 10 ∧ ((M 10 x1) ≤ x2 → Q 0 M) ∧ (¬ ((M 10 x1) ≤ x2) → Q 1 M))))
set_option maxRecDepth 10000 in
theorem s_isEnum_0 {l : Launch} {G : GT} {m : Int} {a : Int → Int} {d mc ms : Nat} {S : Sh} {Q : Int → Mem → Prop} {rc : MP} {cl : MC} {V0 V M : Mem} {x1 x2 : Int} (hrc : RCok l G m a S V0 Q d mc ms rc) (hcl : CLok l G m a S d cl) (mr : MR m a S V M) (mf : MF m a V0 V) (hB : B_isEnum_0 rc cl Q d x1 x2 M) : XJ l G bX12_isEnum (Qm m a S V0 Q) (d + 1) 0 [vr m, vi x1, vi x2] [] S V mc ms := by
  unfold B_isEnum_0 at hB
  refine X_iload_n dX12_isEnum_0 rfl ?_
  refine X_if_lt dX12_isEnum_1 (tgt := 30) rfl (fun c1 => ?_) (fun c1 => ?_)
  · refine X_iconst dX12_isEnum_30 (by decide) ?_
    exact X_ret (z := 0) dX12_isEnum_31 rfl (fun _ => Or.inl rfl) ⟨rfl, _, (hB.1 c1), mr, mf⟩
  · refine X_iload_n dX12_isEnum_4 rfl ?_
    refine X_aload_n dX12_isEnum_5 rfl ?_
    refine X_getfield (ci := 12) (k := 8) (v := vi (M 0 8)) dX12_isEnum_6 rfl (by decide) kf_RX12_392 (congrArg vi (MR.in_ mr (k := 8) (by decide) rfl)) mr.1 ?_
    refine X_icmp_ge dX12_isEnum_9 (tgt := 30) rfl (fun c2 => ?_) (fun c2 => ?_)
    · refine X_iconst dX12_isEnum_30 (by decide) ?_
      exact X_ret (z := 0) dX12_isEnum_31 rfl (fun _ => Or.inl rfl) ⟨rfl, _, ((hB.2 c1).1 c2), mr, mf⟩
    · refine X_iload_n dX12_isEnum_12 rfl ?_
      refine X_if_lt dX12_isEnum_13 (tgt := 30) rfl (fun c3 => ?_) (fun c3 => ?_)
      · refine X_iconst dX12_isEnum_30 (by decide) ?_
        exact X_ret (z := 0) dX12_isEnum_31 rfl (fun _ => Or.inl rfl) ⟨rfl, _, (((hB.2 c1).2 c2).1 c3), mr, mf⟩
      · refine X_iload_n dX12_isEnum_16 rfl ?_
        refine X_aload_n dX12_isEnum_17 rfl ?_
        refine X_getfield (ci := 12) (k := 10) (v := vr (a 10)) dX12_isEnum_18 rfl (by decide) kf_RX12_16 (congrArg vr (MR.ar mr (k := 10) (by decide)).1) mr.1 ?_
        refine X_iload_n dX12_isEnum_21 rfl ?_
        refine X_iaload dX12_isEnum_22 ((MR.ar mr (k := 10) (by decide)).2.1.trans (by decide)) (((hB.2 c1).2 c2).2 c3).1 (lt_eq (((hB.2 c1).2 c2).2 c3).2.1 (MR.ln mr (k := 10) (by decide) (by decide))) ?_
        refine X_top (v := vi (M 10 x1)) (congrArg vi (MR.el mr (k := 10) (by decide) rfl)) ?_
        refine X_icmp_ge dX12_isEnum_23 (tgt := 30) rfl (fun c4 => ?_) (fun c4 => ?_)
        · refine X_iconst dX12_isEnum_30 (by decide) ?_
          exact X_ret (z := 0) dX12_isEnum_31 rfl (fun _ => Or.inl rfl) ⟨rfl, _, ((((hB.2 c1).2 c2).2 c3).2.2.1 c4), mr, mf⟩
        · refine X_iconst dX12_isEnum_26 (by decide) ?_
          refine X_goto dX12_isEnum_27 (tgt := 31) rfl ?_
          exact X_ret (z := 1) dX12_isEnum_31 rfl (fun _ => Or.inr rfl) ⟨rfl, _, ((((hB.2 c1).2 c2).2 c3).2.2.2 c4), mr, mf⟩
def B_isConstant_0 (rc : MP) (cl : MC) (Q : Int → Mem → Prop) (d : Nat) (x1 x2 x3 : Int) (M : Mem) : Prop := cl n_isEnum_0 [x1, x2] M (fun z1 M1 => (z1 = 0 → Q 0 M1) ∧ (¬ (z1 = 0) → (x3 < 0 → Q 0 M1) ∧ (¬ (x3 < 0) → -2147483648 ≤ 12 * x1 ∧ 12 * x1 ≤ 2147483647 ∧ -2147483648 ≤ (12 * x1) + x2 ∧ (12 * x1) + x2 ≤ 2147483647 ∧ 0 ≤ ((12 * x1) + x2) ∧ ((12 * x1) + x2) < 120 ∧ ((M1 14 ((12 * x1) + x2)) ≤ x3 → Q 0 M1) ∧ (¬ ((M1 14 ((12 * x1) + x2)) ≤ x3) → Q 1 M1))))
set_option maxRecDepth 10000 in
theorem s_isConstant_0 {l : Launch} {G : GT} {m : Int} {a : Int → Int} {d mc ms : Nat} {S : Sh} {Q : Int → Mem → Prop} {rc : MP} {cl : MC} {V0 V M : Mem} {x1 x2 x3 : Int} (hrc : RCok l G m a S V0 Q d mc ms rc) (hcl : CLok l G m a S d cl) (mr : MR m a S V M) (mf : MF m a V0 V) (hB : B_isConstant_0 rc cl Q d x1 x2 x3 M) : XJ l G bX12_isConstant (Qm m a S V0 Q) (d + 1) 0 [vr m, vi x1, vi x2, vi x3] [] S V mc ms := by
  unfold B_isConstant_0 at hB
  refine X_aload_n dX12_isConstant_0 rfl ?_
  refine X_iload_n dX12_isConstant_1 rfl ?_
  refine X_iload_n dX12_isConstant_2 rfl ?_
  refine X_invV (ci := 12) (as := [vi x1, vi x2]) (st := []) okX12_isEnum dX12_isConstant_3 km_RX12_439 rfl rfl (Nat.le_of_ble_eq_true rfl) rfl rfl mr.1 (CT.of d 0 0 (hcl n_isEnum_0 rfl [x1, x2] _ _ _ hB mr) (Nat.le_refl _) (Nat.zero_le _) (Nat.zero_le _) (fun z1 S1 V1 hq1 => ?_))
  obtain ⟨rfl, M1, hc2, mr1, hf1⟩ := hq1
  have mf1 := MF.trans mf hf1
  refine X_if_eq dX12_isConstant_6 (tgt := 32) rfl (fun c3 => ?_) (fun c3 => ?_)
  · refine X_iconst dX12_isConstant_32 (by decide) ?_
    exact X_ret (z := 0) dX12_isConstant_33 rfl (fun _ => Or.inl rfl) ⟨rfl, _, (hc2.1 c3), mr1, mf1⟩
  · refine X_iload_n dX12_isConstant_9 rfl ?_
    refine X_if_lt dX12_isConstant_10 (tgt := 32) rfl (fun c4 => ?_) (fun c4 => ?_)
    · refine X_iconst dX12_isConstant_32 (by decide) ?_
      exact X_ret (z := 0) dX12_isConstant_33 rfl (fun _ => Or.inl rfl) ⟨rfl, _, ((hc2.2 c3).1 c4), mr1, mf1⟩
    · refine X_iload_n dX12_isConstant_13 rfl ?_
      refine X_aload_n dX12_isConstant_14 rfl ?_
      refine X_getfield (ci := 12) (k := 14) (v := vr (a 14)) dX12_isConstant_15 rfl (by decide) kf_RX12_29 (congrArg vr (MR.ar mr1 (k := 14) (by decide)).1) mr1.1 ?_
      refine X_bipush dX12_isConstant_18 (by decide) (by decide) ?_
      refine X_iload_n dX12_isConstant_20 rfl ?_
      refine X_imulN dX12_isConstant_21 ((hc2.2 c3).2 c4).1 ((hc2.2 c3).2 c4).2.1 ?_
      refine X_iload_n dX12_isConstant_22 rfl ?_
      refine X_iaddN dX12_isConstant_23 ((hc2.2 c3).2 c4).2.2.1 ((hc2.2 c3).2 c4).2.2.2.1 ?_
      refine X_iaload dX12_isConstant_24 ((MR.ar mr1 (k := 14) (by decide)).2.1.trans (by decide)) ((hc2.2 c3).2 c4).2.2.2.2.1 (lt_eq ((hc2.2 c3).2 c4).2.2.2.2.2.1 (MR.ln mr1 (k := 14) (by decide) (by decide))) ?_
      refine X_top (v := vi (M1 14 ((12 * x1) + x2))) (congrArg vi (MR.el mr1 (k := 14) (by decide) rfl)) ?_
      refine X_icmp_ge dX12_isConstant_25 (tgt := 32) rfl (fun c5 => ?_) (fun c5 => ?_)
      · refine X_iconst dX12_isConstant_32 (by decide) ?_
        exact X_ret (z := 0) dX12_isConstant_33 rfl (fun _ => Or.inl rfl) ⟨rfl, _, (((hc2.2 c3).2 c4).2.2.2.2.2.2.1 c5), mr1, mf1⟩
      · refine X_iconst dX12_isConstant_28 (by decide) ?_
        refine X_goto dX12_isConstant_29 (tgt := 33) rfl ?_
        exact X_ret (z := 1) dX12_isConstant_33 rfl (fun _ => Or.inr rfl) ⟨rfl, _, (((hc2.2 c3).2 c4).2.2.2.2.2.2.2 c5), mr1, mf1⟩
def B_begin_0 (rc : MP) (cl : MC) (Q : Int → Mem → Prop) (d : Nat) (x1 : Int) (M : Mem) : Prop := Q 0 (up (up (up M 0 9 x1) 0 65 0) 0 64 0)
set_option maxRecDepth 10000 in
theorem s_begin_0 {l : Launch} {G : GT} {m : Int} {a : Int → Int} {d mc ms : Nat} {S : Sh} {Q : Int → Mem → Prop} {rc : MP} {cl : MC} {V0 V M : Mem} {x1 : Int} (hrc : RCok l G m a S V0 Q d mc ms rc) (hcl : CLok l G m a S d cl) (mr : MR m a S V M) (mf : MF m a V0 V) (hB : B_begin_0 rc cl Q d x1 M) : XJ l G bX12_begin (Qm m a S V0 Q) (d + 1) 0 [vr m, vi x1] [] S V mc ms := by
  unfold B_begin_0 at hB
  refine X_aload_n dX12_begin_0 rfl ?_
  refine X_iload_n dX12_begin_1 rfl ?_
  refine X_putfield (ci := 12) (k := 9) (z := x1) dX12_begin_2 rfl (by decide) kf_RX12_263 (Or.inl rfl) (Or.inl rfl) rfl (fun hv => hv) mr.1 ?_
  refine X_aload_n dX12_begin_5 rfl ?_
  refine X_iconst dX12_begin_6 (by decide) ?_
  refine X_putfield (ci := 12) (k := 65) (z := 0) dX12_begin_7 rfl (by decide) kf_RX12_401 (Or.inr (Or.inr (Or.inl rfl))) (Or.inl rfl) rfl (fun _ => Or.inl rfl) (MR.putI mr (k := 9) (z := x1) (by decide)).1 ?_
  refine X_aload_n dX12_begin_10 rfl ?_
  refine X_iconst dX12_begin_11 (by decide) ?_
  refine X_putfield (ci := 12) (k := 64) (z := 0) dX12_begin_12 rfl (by decide) kf_RX12_413 (Or.inl rfl) (Or.inl rfl) rfl (fun hv => hv) (MR.putI (MR.putI mr (k := 9) (z := x1) (by decide)) (k := 65) (z := 0) (by decide)).1 ?_
  exact X_ret (z := 0) dX12_begin_15 rfl (fun _ => trivial) ⟨rfl, _, hB, (MR.putI (MR.putI (MR.putI mr (k := 9) (z := x1) (by decide)) (k := 65) (z := 0) (by decide)) (k := 64) (z := 0) (by decide)), (MF.putI (MF.putI (MF.putI mf (k := 9) (z := x1)) (k := 65) (z := 0)) (k := 64) (z := 0))⟩
def B_ends_0 (rc : MP) (cl : MC) (Q : Int → Mem → Prop) (d : Nat) (x1 : Int) (M : Mem) : Prop := ((M 0 65) = 0 → Q 0 (up M 0 69 x1)) ∧ (¬ ((M 0 65) = 0) → Q (-3) M)
set_option maxRecDepth 10000 in
theorem s_ends_0 {l : Launch} {G : GT} {m : Int} {a : Int → Int} {d mc ms : Nat} {S : Sh} {Q : Int → Mem → Prop} {rc : MP} {cl : MC} {V0 V M : Mem} {x1 : Int} (hrc : RCok l G m a S V0 Q d mc ms rc) (hcl : CLok l G m a S d cl) (mr : MR m a S V M) (mf : MF m a V0 V) (hB : B_ends_0 rc cl Q d x1 M) : XJ l G bX12_ends (Qm m a S V0 Q) (d + 1) 0 [vr m, vi x1] [] S V mc ms := by
  unfold B_ends_0 at hB
  refine X_aload_n dX12_ends_0 rfl ?_
  refine X_getfield (ci := 12) (k := 65) (v := vi (M 0 65)) dX12_ends_1 rfl (by decide) kf_RX12_401 (congrArg vi (MR.in_ mr (k := 65) (by decide) rfl)) mr.1 ?_
  refine X_if_eq dX12_ends_4 (tgt := 10) rfl (fun c1 => ?_) (fun c1 => ?_)
  · refine X_aload_n dX12_ends_10 rfl ?_
    refine X_iload_n dX12_ends_11 rfl ?_
    refine X_putfield (ci := 12) (k := 69) (z := x1) dX12_ends_12 rfl (by decide) kf_RX12_442 (Or.inl rfl) (Or.inl rfl) rfl (fun hv => hv) mr.1 ?_
    refine X_iconst dX12_ends_15 (by decide) ?_
    exact X_ret (z := 0) dX12_ends_16 rfl (fun hv => vok_h hv) ⟨rfl, _, (hB.1 c1), (MR.putI mr (k := 69) (z := x1) (by decide)), (MF.putI mf (k := 69) (z := x1))⟩
  · refine X_bipush dX12_ends_7 (by decide) (by decide) ?_
    exact X_ret (z := (-3)) dX12_ends_9 rfl (fun hv => vok_h hv) ⟨rfl, _, (hB.2 c1), mr, mf⟩
def B_uses_0 (rc : MP) (cl : MC) (Q : Int → Mem → Prop) (d : Nat) (x1 x2 : Int) (M : Mem) : Prop := cl n_begin_0 [x1] M (fun z1 M1 => cl n_use_0 [x2] M1 (fun z3 M3 => ((M3 0 65) = 0 → Q 0 M3) ∧ (¬ ((M3 0 65) = 0) → Q (-3) M3)))
set_option maxRecDepth 10000 in
theorem s_uses_0 {l : Launch} {G : GT} {m : Int} {a : Int → Int} {d mc ms : Nat} {S : Sh} {Q : Int → Mem → Prop} {rc : MP} {cl : MC} {V0 V M : Mem} {x1 x2 : Int} (hrc : RCok l G m a S V0 Q d mc ms rc) (hcl : CLok l G m a S d cl) (mr : MR m a S V M) (mf : MF m a V0 V) (hB : B_uses_0 rc cl Q d x1 x2 M) : XJ l G bX12_uses (Qm m a S V0 Q) (d + 1) 0 [vr m, vi x1, vi x2] [] S V mc ms := by
  unfold B_uses_0 at hB
  refine X_aload_n dX12_uses_0 rfl ?_
  refine X_iload_n dX12_uses_1 rfl ?_
  refine X_invV (ci := 12) (as := [vi x1]) (st := []) okX12_begin dX12_uses_2 km_RX12_445 rfl rfl (Nat.le_of_ble_eq_true rfl) rfl rfl mr.1 (CT.of d 0 0 (hcl n_begin_0 rfl [x1] _ _ _ hB mr) (Nat.le_refl _) (Nat.zero_le _) (Nat.zero_le _) (fun z1 S1 V1 hq1 => ?_))
  obtain ⟨rfl, M1, hc2, mr1, hf1⟩ := hq1
  have mf1 := MF.trans mf hf1
  refine X_aload_n dX12_uses_5 rfl ?_
  refine X_iload_n dX12_uses_6 rfl ?_
  refine X_invV (ci := 12) (as := [vi x2]) (st := []) okX12_use dX12_uses_7 km_RX12_424 rfl rfl (Nat.le_of_ble_eq_true rfl) rfl rfl mr1.1 (CT.of d 0 0 (hcl n_use_0 rfl [x2] _ _ _ hc2 mr1) (Nat.le_refl _) (Nat.zero_le _) (Nat.zero_le _) (fun z3 S3 V3 hq3 => ?_))
  obtain ⟨rfl, M3, hc4, mr3, hf3⟩ := hq3
  have mf3 := MF.trans mf1 hf3
  refine X_aload_n dX12_uses_10 rfl ?_
  refine X_getfield (ci := 12) (k := 65) (v := vi (M3 0 65)) dX12_uses_11 rfl (by decide) kf_RX12_401 (congrArg vi (MR.in_ mr3 (k := 65) (by decide) rfl)) mr3.1 ?_
  refine X_if_eq dX12_uses_14 (tgt := 22) rfl (fun c5 => ?_) (fun c5 => ?_)
  · refine X_iconst dX12_uses_22 (by decide) ?_
    exact X_ret (z := 0) dX12_uses_23 rfl (fun hv => vok_h hv) ⟨rfl, _, (hc4.1 c5), mr3, mf3⟩
  · refine X_bipush dX12_uses_17 (by decide) (by decide) ?_
    refine X_goto dX12_uses_19 (tgt := 23) rfl ?_
    exact X_ret (z := (-3)) dX12_uses_23 rfl (fun hv => vok_h hv) ⟨rfl, _, (hc4.2 c5), mr3, mf3⟩
def B_told_0 (rc : MP) (cl : MC) (Q : Int → Mem → Prop) (d : Nat) (x1 x2 : Int) (M : Mem) : Prop := (x1 < 0 → Q (-1) M) ∧ (¬ (x1 < 0) → (x1 < (M 0 8) → (x2 = 0 → 0 ≤ x1 ∧ x1 < 10 ∧ Q (M 10 x1) M) ∧ (¬ x2 = 0 → (x2 = 1 → 0 ≤ x1 ∧ x1 < 10 ∧ Q (M 11 x1) M) ∧ (¬ x2 = 1 → (x2 = 2 → 0 ≤ x1 ∧ x1 < 10 ∧ Q (M 59 x1) M) ∧ (¬ x2 = 2 → (x2 = 3 → 0 ≤ x1 ∧ x1 < 10 ∧ Q (M 62 x1) M) ∧ (¬ x2 = 3 → Q (-1) M))))) ∧ (¬ (x1 < (M 0 8)) → Q (-1) M))
set_option maxRecDepth 10000 in
theorem s_told_0 {l : Launch} {G : GT} {m : Int} {a : Int → Int} {d mc ms : Nat} {S : Sh} {Q : Int → Mem → Prop} {rc : MP} {cl : MC} {V0 V M : Mem} {x1 x2 : Int} (hrc : RCok l G m a S V0 Q d mc ms rc) (hcl : CLok l G m a S d cl) (mr : MR m a S V M) (mf : MF m a V0 V) (hB : B_told_0 rc cl Q d x1 x2 M) : XJ l G bX12_told (Qm m a S V0 Q) (d + 1) 0 [vr m, vi x1, vi x2] [] S V mc ms := by
  unfold B_told_0 at hB
  refine X_iload_n dX12_told_0 rfl ?_
  refine X_if_lt dX12_told_1 (tgt := 12) rfl (fun c1 => ?_) (fun c1 => ?_)
  · refine X_iconst dX12_told_12 (by decide) ?_
    exact X_ret (z := (-1)) dX12_told_13 rfl (fun hv => vok_h hv) ⟨rfl, _, (hB.1 c1), mr, mf⟩
  · refine X_iload_n dX12_told_4 rfl ?_
    refine X_aload_n dX12_told_5 rfl ?_
    refine X_getfield (ci := 12) (k := 8) (v := vi (M 0 8)) dX12_told_6 rfl (by decide) kf_RX12_392 (congrArg vi (MR.in_ mr (k := 8) (by decide) rfl)) mr.1 ?_
    refine X_icmp_lt dX12_told_9 (tgt := 14) rfl (fun c2 => ?_) (fun c2 => ?_)
    · refine X_iload_n dX12_told_14 rfl ?_
      by_cases c3 : x2 = 0
      · refine X_table dX12_told_15 44 29 (by rw [c3]; rfl) rfl ?_
        refine X_aload_n dX12_told_44 rfl ?_
        refine X_getfield (ci := 12) (k := 10) (v := vr (a 10)) dX12_told_45 rfl (by decide) kf_RX12_16 (congrArg vr (MR.ar mr (k := 10) (by decide)).1) mr.1 ?_
        refine X_iload_n dX12_told_48 rfl ?_
        refine X_iaload dX12_told_49 ((MR.ar mr (k := 10) (by decide)).2.1.trans (by decide)) (((hB.2 c1).1 c2).1 c3).1 (lt_eq (((hB.2 c1).1 c2).1 c3).2.1 (MR.ln mr (k := 10) (by decide) (by decide))) ?_
        refine X_top (v := vi (M 10 x1)) (congrArg vi (MR.el mr (k := 10) (by decide) rfl)) ?_
        exact X_ret (z := (M 10 x1)) dX12_told_50 rfl (fun hv => vok_h hv) ⟨rfl, _, (((hB.2 c1).1 c2).1 c3).2.2, mr, mf⟩
      by_cases c4 : x2 = 1
      · refine X_table dX12_told_15 51 36 (by rw [c4]; rfl) rfl ?_
        refine X_aload_n dX12_told_51 rfl ?_
        refine X_getfield (ci := 12) (k := 11) (v := vr (a 11)) dX12_told_52 rfl (by decide) kf_RX12_20 (congrArg vr (MR.ar mr (k := 11) (by decide)).1) mr.1 ?_
        refine X_iload_n dX12_told_55 rfl ?_
        refine X_iaload dX12_told_56 ((MR.ar mr (k := 11) (by decide)).2.1.trans (by decide)) ((((hB.2 c1).1 c2).2 c3).1 c4).1 (lt_eq ((((hB.2 c1).1 c2).2 c3).1 c4).2.1 (MR.ln mr (k := 11) (by decide) (by decide))) ?_
        refine X_top (v := vi (M 11 x1)) (congrArg vi (MR.el mr (k := 11) (by decide) rfl)) ?_
        exact X_ret (z := (M 11 x1)) dX12_told_57 rfl (fun hv => vok_h hv) ⟨rfl, _, ((((hB.2 c1).1 c2).2 c3).1 c4).2.2, mr, mf⟩
      by_cases c5 : x2 = 2
      · refine X_table dX12_told_15 58 43 (by rw [c5]; rfl) rfl ?_
        refine X_aload_n dX12_told_58 rfl ?_
        refine X_getfield (ci := 12) (k := 59) (v := vr (a 59)) dX12_told_59 rfl (by decide) kf_RX12_137 (congrArg vr (MR.ar mr (k := 59) (by decide)).1) mr.1 ?_
        refine X_iload_n dX12_told_62 rfl ?_
        refine X_iaload dX12_told_63 ((MR.ar mr (k := 59) (by decide)).2.1.trans (by decide)) (((((hB.2 c1).1 c2).2 c3).2 c4).1 c5).1 (lt_eq (((((hB.2 c1).1 c2).2 c3).2 c4).1 c5).2.1 (MR.ln mr (k := 59) (by decide) (by decide))) ?_
        refine X_top (v := vi (M 59 x1)) (congrArg vi (MR.el mr (k := 59) (by decide) rfl)) ?_
        exact X_ret (z := (M 59 x1)) dX12_told_64 rfl (fun hv => vok_h hv) ⟨rfl, _, (((((hB.2 c1).1 c2).2 c3).2 c4).1 c5).2.2, mr, mf⟩
      by_cases c6 : x2 = 3
      · refine X_table dX12_told_15 65 50 (by rw [c6]; rfl) rfl ?_
        refine X_aload_n dX12_told_65 rfl ?_
        refine X_getfield (ci := 12) (k := 62) (v := vr (a 62)) dX12_told_66 rfl (by decide) kf_RX12_146 (congrArg vr (MR.ar mr (k := 62) (by decide)).1) mr.1 ?_
        refine X_iload_n dX12_told_69 rfl ?_
        refine X_iaload dX12_told_70 ((MR.ar mr (k := 62) (by decide)).2.1.trans (by decide)) ((((((hB.2 c1).1 c2).2 c3).2 c4).2 c5).1 c6).1 (lt_eq ((((((hB.2 c1).1 c2).2 c3).2 c4).2 c5).1 c6).2.1 (MR.ln mr (k := 62) (by decide) (by decide))) ?_
        refine X_top (v := vi (M 62 x1)) (congrArg vi (MR.el mr (k := 62) (by decide) rfl)) ?_
        exact X_ret (z := (M 62 x1)) dX12_told_71 rfl (fun hv => vok_h hv) ⟨rfl, _, ((((((hB.2 c1).1 c2).2 c3).2 c4).2 c5).1 c6).2.2, mr, mf⟩
      refine X_table dX12_told_15 72 57 (tbl_df (by omega)) rfl ?_
      refine X_iconst dX12_told_72 (by decide) ?_
      exact X_ret (z := (-1)) dX12_told_73 rfl (fun hv => vok_h hv) ⟨rfl, _, ((((((hB.2 c1).1 c2).2 c3).2 c4).2 c5).2 c6), mr, mf⟩
    · refine X_iconst dX12_told_12 (by decide) ?_
      exact X_ret (z := (-1)) dX12_told_13 rfl (fun hv => vok_h hv) ⟨rfl, _, ((hB.2 c1).2 c2), mr, mf⟩
def B_about_0 (rc : MP) (cl : MC) (Q : Int → Mem → Prop) (d : Nat) (x1 x2 x3 : Int) (M : Mem) : Prop := cl n_isEnum_0 [x1, x2] M (fun z1 M1 => (z1 ≠ 0 → -2147483648 ≤ 12 * x1 ∧ 12 * x1 ≤ 2147483647 ∧ -2147483648 ≤ (12 * x1) + x2 ∧ (12 * x1) + x2 ≤ 2147483647 ∧ (x3 = 0 → 0 ≤ ((12 * x1) + x2) ∧ ((12 * x1) + x2) < 120 ∧ Q (M1 14 ((12 * x1) + x2)) M1) ∧ (¬ x3 = 0 → (x3 = 1 → 0 ≤ ((12 * x1) + x2) ∧ ((12 * x1) + x2) < 120 ∧ Q (M1 15 ((12 * x1) + x2)) M1) ∧ (¬ x3 = 1 → (x3 = 2 → 0 ≤ ((12 * x1) + x2) ∧ ((12 * x1) + x2) < 120 ∧ Q (M1 16 ((12 * x1) + x2)) M1) ∧ (¬ x3 = 2 → (x3 = 3 → 0 ≤ ((12 * x1) + x2) ∧ ((12 * x1) + x2) < 120 ∧ Q (M1 17 ((12 * x1) + x2)) M1) ∧ (¬ x3 = 3 → (x3 = 4 → 0 ≤ ((12 * x1) + x2) ∧ ((12 * x1) + x2) < 120 ∧ Q (M1 18 ((12 * x1) + x2)) M1) ∧ (¬ x3 = 4 → Q (-1) M1)))))) ∧ (¬ (z1 ≠ 0) → Q (-1) M1))
set_option maxRecDepth 10000 in
theorem s_about_0 {l : Launch} {G : GT} {m : Int} {a : Int → Int} {d mc ms : Nat} {S : Sh} {Q : Int → Mem → Prop} {rc : MP} {cl : MC} {V0 V M : Mem} {x1 x2 x3 : Int} (hrc : RCok l G m a S V0 Q d mc ms rc) (hcl : CLok l G m a S d cl) (mr : MR m a S V M) (mf : MF m a V0 V) (hB : B_about_0 rc cl Q d x1 x2 x3 M) : XJ l G bX12_about (Qm m a S V0 Q) (d + 1) 0 [vr m, vi x1, vi x2, vi x3, vu] [] S V mc ms := by
  unfold B_about_0 at hB
  refine X_aload_n dX12_about_0 rfl ?_
  refine X_iload_n dX12_about_1 rfl ?_
  refine X_iload_n dX12_about_2 rfl ?_
  refine X_invV (ci := 12) (as := [vi x1, vi x2]) (st := []) okX12_isEnum dX12_about_3 km_RX12_439 rfl rfl (Nat.le_of_ble_eq_true rfl) rfl rfl mr.1 (CT.of d 0 0 (hcl n_isEnum_0 rfl [x1, x2] _ _ _ hB mr) (Nat.le_refl _) (Nat.zero_le _) (Nat.zero_le _) (fun z1 S1 V1 hq1 => ?_))
  obtain ⟨rfl, M1, hc2, mr1, hf1⟩ := hq1
  have mf1 := MF.trans mf hf1
  refine X_if_ne dX12_about_6 (tgt := 11) rfl (fun c3 => ?_) (fun c3 => ?_)
  · refine X_bipush dX12_about_11 (by decide) (by decide) ?_
    refine X_iload_n dX12_about_13 rfl ?_
    refine X_imulN dX12_about_14 (hc2.1 c3).1 (hc2.1 c3).2.1 ?_
    refine X_iload_n dX12_about_15 rfl ?_
    refine X_iaddN dX12_about_16 (hc2.1 c3).2.2.1 (hc2.1 c3).2.2.2.1 ?_
    refine X_istore dX12_about_17 (by decide) rfl ?_
    refine X_iload_n dX12_about_19 rfl ?_
    by_cases c4 : x3 = 0
    · refine X_table dX12_about_20 56 36 (by rw [c4]; rfl) rfl ?_
      refine X_aload_n dX12_about_56 rfl ?_
      refine X_getfield (ci := 12) (k := 14) (v := vr (a 14)) dX12_about_57 rfl (by decide) kf_RX12_29 (congrArg vr (MR.ar mr1 (k := 14) (by decide)).1) mr1.1 ?_
      refine X_iload dX12_about_60 rfl ?_
      refine X_iaload dX12_about_62 ((MR.ar mr1 (k := 14) (by decide)).2.1.trans (by decide)) ((hc2.1 c3).2.2.2.2.1 c4).1 (lt_eq ((hc2.1 c3).2.2.2.2.1 c4).2.1 (MR.ln mr1 (k := 14) (by decide) (by decide))) ?_
      refine X_top (v := vi (M1 14 ((12 * x1) + x2))) (congrArg vi (MR.el mr1 (k := 14) (by decide) rfl)) ?_
      exact X_ret (z := (M1 14 ((12 * x1) + x2))) dX12_about_63 rfl (fun hv => vok_h hv) ⟨rfl, _, ((hc2.1 c3).2.2.2.2.1 c4).2.2, mr1, mf1⟩
    by_cases c5 : x3 = 1
    · refine X_table dX12_about_20 64 44 (by rw [c5]; rfl) rfl ?_
      refine X_aload_n dX12_about_64 rfl ?_
      refine X_getfield (ci := 12) (k := 15) (v := vr (a 15)) dX12_about_65 rfl (by decide) kf_RX12_32 (congrArg vr (MR.ar mr1 (k := 15) (by decide)).1) mr1.1 ?_
      refine X_iload dX12_about_68 rfl ?_
      refine X_iaload dX12_about_70 ((MR.ar mr1 (k := 15) (by decide)).2.1.trans (by decide)) (((hc2.1 c3).2.2.2.2.2 c4).1 c5).1 (lt_eq (((hc2.1 c3).2.2.2.2.2 c4).1 c5).2.1 (MR.ln mr1 (k := 15) (by decide) (by decide))) ?_
      refine X_top (v := vi (M1 15 ((12 * x1) + x2))) (congrArg vi (MR.el mr1 (k := 15) (by decide) rfl)) ?_
      exact X_ret (z := (M1 15 ((12 * x1) + x2))) dX12_about_71 rfl (fun hv => vok_h hv) ⟨rfl, _, (((hc2.1 c3).2.2.2.2.2 c4).1 c5).2.2, mr1, mf1⟩
    by_cases c6 : x3 = 2
    · refine X_table dX12_about_20 72 52 (by rw [c6]; rfl) rfl ?_
      refine X_aload_n dX12_about_72 rfl ?_
      refine X_getfield (ci := 12) (k := 16) (v := vr (a 16)) dX12_about_73 rfl (by decide) kf_RX12_35 (congrArg vr (MR.ar mr1 (k := 16) (by decide)).1) mr1.1 ?_
      refine X_iload dX12_about_76 rfl ?_
      refine X_iaload dX12_about_78 ((MR.ar mr1 (k := 16) (by decide)).2.1.trans (by decide)) ((((hc2.1 c3).2.2.2.2.2 c4).2 c5).1 c6).1 (lt_eq ((((hc2.1 c3).2.2.2.2.2 c4).2 c5).1 c6).2.1 (MR.ln mr1 (k := 16) (by decide) (by decide))) ?_
      refine X_top (v := vi (M1 16 ((12 * x1) + x2))) (congrArg vi (MR.el mr1 (k := 16) (by decide) rfl)) ?_
      exact X_ret (z := (M1 16 ((12 * x1) + x2))) dX12_about_79 rfl (fun hv => vok_h hv) ⟨rfl, _, ((((hc2.1 c3).2.2.2.2.2 c4).2 c5).1 c6).2.2, mr1, mf1⟩
    by_cases c7 : x3 = 3
    · refine X_table dX12_about_20 80 60 (by rw [c7]; rfl) rfl ?_
      refine X_aload_n dX12_about_80 rfl ?_
      refine X_getfield (ci := 12) (k := 17) (v := vr (a 17)) dX12_about_81 rfl (by decide) kf_RX12_38 (congrArg vr (MR.ar mr1 (k := 17) (by decide)).1) mr1.1 ?_
      refine X_iload dX12_about_84 rfl ?_
      refine X_iaload dX12_about_86 ((MR.ar mr1 (k := 17) (by decide)).2.1.trans (by decide)) (((((hc2.1 c3).2.2.2.2.2 c4).2 c5).2 c6).1 c7).1 (lt_eq (((((hc2.1 c3).2.2.2.2.2 c4).2 c5).2 c6).1 c7).2.1 (MR.ln mr1 (k := 17) (by decide) (by decide))) ?_
      refine X_top (v := vi (M1 17 ((12 * x1) + x2))) (congrArg vi (MR.el mr1 (k := 17) (by decide) rfl)) ?_
      exact X_ret (z := (M1 17 ((12 * x1) + x2))) dX12_about_87 rfl (fun hv => vok_h hv) ⟨rfl, _, (((((hc2.1 c3).2.2.2.2.2 c4).2 c5).2 c6).1 c7).2.2, mr1, mf1⟩
    by_cases c8 : x3 = 4
    · refine X_table dX12_about_20 88 68 (by rw [c8]; rfl) rfl ?_
      refine X_aload_n dX12_about_88 rfl ?_
      refine X_getfield (ci := 12) (k := 18) (v := vr (a 18)) dX12_about_89 rfl (by decide) kf_RX12_41 (congrArg vr (MR.ar mr1 (k := 18) (by decide)).1) mr1.1 ?_
      refine X_iload dX12_about_92 rfl ?_
      refine X_iaload dX12_about_94 ((MR.ar mr1 (k := 18) (by decide)).2.1.trans (by decide)) ((((((hc2.1 c3).2.2.2.2.2 c4).2 c5).2 c6).2 c7).1 c8).1 (lt_eq ((((((hc2.1 c3).2.2.2.2.2 c4).2 c5).2 c6).2 c7).1 c8).2.1 (MR.ln mr1 (k := 18) (by decide) (by decide))) ?_
      refine X_top (v := vi (M1 18 ((12 * x1) + x2))) (congrArg vi (MR.el mr1 (k := 18) (by decide) rfl)) ?_
      exact X_ret (z := (M1 18 ((12 * x1) + x2))) dX12_about_95 rfl (fun hv => vok_h hv) ⟨rfl, _, ((((((hc2.1 c3).2.2.2.2.2 c4).2 c5).2 c6).2 c7).1 c8).2.2, mr1, mf1⟩
    refine X_table dX12_about_20 96 76 (tbl_df (by omega)) rfl ?_
    refine X_iconst dX12_about_96 (by decide) ?_
    exact X_ret (z := (-1)) dX12_about_97 rfl (fun hv => vok_h hv) ⟨rfl, _, ((((((hc2.1 c3).2.2.2.2.2 c4).2 c5).2 c6).2 c7).2 c8), mr1, mf1⟩
  · refine X_iconst dX12_about_9 (by decide) ?_
    exact X_ret (z := (-1)) dX12_about_10 rfl (fun hv => vok_h hv) ⟨rfl, _, (hc2.2 c3), mr1, mf1⟩
def B_isItem_0 (rc : MP) (cl : MC) (Q : Int → Mem → Prop) (d : Nat) (x1 x2 : Int) (M : Mem) : Prop := (100 ≤ x2 → -2147483648 ≤ x2 - 100 ∧ x2 - 100 ≤ 2147483647 ∧ cl n_isEnum_0 [x1, (x2 - 100).tdiv 4] M (fun z2 M2 => (z2 = 0 → Q 0 M2) ∧ (¬ (z2 = 0) → -2147483648 ≤ 12 * x1 ∧ 12 * x1 ≤ 2147483647 ∧ -2147483648 ≤ (12 * x1) + ((x2 - 100).tdiv 4) ∧ (12 * x1) + ((x2 - 100).tdiv 4) ≤ 2147483647 ∧ 0 ≤ ((12 * x1) + ((x2 - 100).tdiv 4)) ∧ ((12 * x1) + ((x2 - 100).tdiv 4)) < 120 ∧ ((M2 17 ((12 * x1) + ((x2 - 100).tdiv 4))) ≤ ((x2 - 100).tmod 4) → Q 0 M2) ∧ (¬ ((M2 17 ((12 * x1) + ((x2 - 100).tdiv 4))) ≤ ((x2 - 100).tmod 4)) → Q 1 M2)))) ∧ (¬ (100 ≤ x2) → cl n_isEnum_0 [x1, x2] M (fun z6 M6 => (z6 = 0 ∨ z6 = 1) ∧ Q z6 M6))
set_option maxRecDepth 10000 in
theorem s_isItem_0 {l : Launch} {G : GT} {m : Int} {a : Int → Int} {d mc ms : Nat} {S : Sh} {Q : Int → Mem → Prop} {rc : MP} {cl : MC} {V0 V M : Mem} {x1 x2 : Int} (hrc : RCok l G m a S V0 Q d mc ms rc) (hcl : CLok l G m a S d cl) (mr : MR m a S V M) (mf : MF m a V0 V) (hB : B_isItem_0 rc cl Q d x1 x2 M) : XJ l G bX12_isItem (Qm m a S V0 Q) (d + 1) 0 [vr m, vi x1, vi x2, vu] [] S V mc ms := by
  unfold B_isItem_0 at hB
  refine X_iload_n dX12_isItem_0 rfl ?_
  refine X_bipush dX12_isItem_1 (by decide) (by decide) ?_
  refine X_icmp_ge dX12_isItem_3 (tgt := 13) rfl (fun c1 => ?_) (fun c1 => ?_)
  · refine X_iload_n dX12_isItem_13 rfl ?_
    refine X_bipush dX12_isItem_14 (by decide) (by decide) ?_
    refine X_isubN dX12_isItem_16 (hB.1 c1).1 (hB.1 c1).2.1 ?_
    refine X_istore_n dX12_isItem_17 (by decide) rfl ?_
    refine X_aload_n dX12_isItem_18 rfl ?_
    refine X_iload_n dX12_isItem_19 rfl ?_
    refine X_iload_n dX12_isItem_20 rfl ?_
    refine X_iconst dX12_isItem_21 (by decide) ?_
    refine X_idivP dX12_isItem_22 (by decide) ?_
    refine X_invV (ci := 12) (as := [vi x1, vi ((x2 - 100).tdiv 4)]) (st := []) okX12_isEnum dX12_isItem_23 km_RX12_439 rfl rfl (Nat.le_of_ble_eq_true rfl) rfl rfl mr.1 (CT.of d 0 0 (hcl n_isEnum_0 rfl [x1, (x2 - 100).tdiv 4] _ _ _ (hB.1 c1).2.2 mr) (Nat.le_refl _) (Nat.zero_le _) (Nat.zero_le _) (fun z2 S2 V2 hq2 => ?_))
    obtain ⟨rfl, M2, hc3, mr2, hf2⟩ := hq2
    have mf2 := MF.trans mf hf2
    refine X_if_eq dX12_isItem_26 (tgt := 52) rfl (fun c4 => ?_) (fun c4 => ?_)
    · refine X_iconst dX12_isItem_52 (by decide) ?_
      exact X_ret (z := 0) dX12_isItem_53 rfl (fun _ => Or.inl rfl) ⟨rfl, _, (hc3.1 c4), mr2, mf2⟩
    · refine X_iload_n dX12_isItem_29 rfl ?_
      refine X_iconst dX12_isItem_30 (by decide) ?_
      refine X_iremP dX12_isItem_31 (by decide) ?_
      refine X_aload_n dX12_isItem_32 rfl ?_
      refine X_getfield (ci := 12) (k := 17) (v := vr (a 17)) dX12_isItem_33 rfl (by decide) kf_RX12_38 (congrArg vr (MR.ar mr2 (k := 17) (by decide)).1) mr2.1 ?_
      refine X_bipush dX12_isItem_36 (by decide) (by decide) ?_
      refine X_iload_n dX12_isItem_38 rfl ?_
      refine X_imulN dX12_isItem_39 (hc3.2 c4).1 (hc3.2 c4).2.1 ?_
      refine X_iload_n dX12_isItem_40 rfl ?_
      refine X_iconst dX12_isItem_41 (by decide) ?_
      refine X_idivP dX12_isItem_42 (by decide) ?_
      refine X_iaddN dX12_isItem_43 (hc3.2 c4).2.2.1 (hc3.2 c4).2.2.2.1 ?_
      refine X_iaload dX12_isItem_44 ((MR.ar mr2 (k := 17) (by decide)).2.1.trans (by decide)) (hc3.2 c4).2.2.2.2.1 (lt_eq (hc3.2 c4).2.2.2.2.2.1 (MR.ln mr2 (k := 17) (by decide) (by decide))) ?_
      refine X_top (v := vi (M2 17 ((12 * x1) + ((x2 - 100).tdiv 4)))) (congrArg vi (MR.el mr2 (k := 17) (by decide) rfl)) ?_
      refine X_icmp_ge dX12_isItem_45 (tgt := 52) rfl (fun c5 => ?_) (fun c5 => ?_)
      · refine X_iconst dX12_isItem_52 (by decide) ?_
        exact X_ret (z := 0) dX12_isItem_53 rfl (fun _ => Or.inl rfl) ⟨rfl, _, ((hc3.2 c4).2.2.2.2.2.2.1 c5), mr2, mf2⟩
      · refine X_iconst dX12_isItem_48 (by decide) ?_
        refine X_goto dX12_isItem_49 (tgt := 53) rfl ?_
        exact X_ret (z := 1) dX12_isItem_53 rfl (fun _ => Or.inr rfl) ⟨rfl, _, ((hc3.2 c4).2.2.2.2.2.2.2 c5), mr2, mf2⟩
  · refine X_aload_n dX12_isItem_6 rfl ?_
    refine X_iload_n dX12_isItem_7 rfl ?_
    refine X_iload_n dX12_isItem_8 rfl ?_
    refine X_invV (ci := 12) (as := [vi x1, vi x2]) (st := []) okX12_isEnum dX12_isItem_9 km_RX12_439 rfl rfl (Nat.le_of_ble_eq_true rfl) rfl rfl mr.1 (CT.of d 0 0 (hcl n_isEnum_0 rfl [x1, x2] _ _ _ (hB.2 c1) mr) (Nat.le_refl _) (Nat.zero_le _) (Nat.zero_le _) (fun z6 S6 V6 hq6 => ?_))
    obtain ⟨rfl, M6, hc7, mr6, hf6⟩ := hq6
    have mf6 := MF.trans mf hf6
    exact X_ret (z := z6) dX12_isItem_12 rfl (fun _ => hc7.1) ⟨rfl, _, hc7.2, mr6, mf6⟩
def B_state_0 (rc : MP) (cl : MC) (Q : Int → Mem → Prop) (d : Nat) (x1 x2 : Int) (M : Mem) : Prop := cl n_isItem_0 [x1, x2] M (fun z1 M1 => (z1 = 0 → Q (-1) M1) ∧ (¬ (z1 = 0) → -2147483648 ≤ 160 * x1 ∧ 160 * x1 ≤ 2147483647 ∧ -2147483648 ≤ (160 * x1) + x2 ∧ (160 * x1) + x2 ≤ 2147483647 ∧ 0 ≤ ((160 * x1) + x2) ∧ ((160 * x1) + x2) < 1600 ∧ Q (M1 52 ((160 * x1) + x2)) M1))
set_option maxRecDepth 10000 in
theorem s_state_0 {l : Launch} {G : GT} {m : Int} {a : Int → Int} {d mc ms : Nat} {S : Sh} {Q : Int → Mem → Prop} {rc : MP} {cl : MC} {V0 V M : Mem} {x1 x2 : Int} (hrc : RCok l G m a S V0 Q d mc ms rc) (hcl : CLok l G m a S d cl) (mr : MR m a S V M) (mf : MF m a V0 V) (hB : B_state_0 rc cl Q d x1 x2 M) : XJ l G bX12_state (Qm m a S V0 Q) (d + 1) 0 [vr m, vi x1, vi x2] [] S V mc ms := by
  unfold B_state_0 at hB
  refine X_aload_n dX12_state_0 rfl ?_
  refine X_iload_n dX12_state_1 rfl ?_
  refine X_iload_n dX12_state_2 rfl ?_
  refine X_invV (ci := 12) (as := [vi x1, vi x2]) (st := []) okX12_isItem dX12_state_3 km_RX12_448 rfl rfl (Nat.le_of_ble_eq_true rfl) rfl rfl mr.1 (CT.of d 0 0 (hcl n_isItem_0 rfl [x1, x2] _ _ _ hB mr) (Nat.le_refl _) (Nat.zero_le _) (Nat.zero_le _) (fun z1 S1 V1 hq1 => ?_))
  obtain ⟨rfl, M1, hc2, mr1, hf1⟩ := hq1
  have mf1 := MF.trans mf hf1
  refine X_if_eq dX12_state_6 (tgt := 24) rfl (fun c3 => ?_) (fun c3 => ?_)
  · refine X_iconst dX12_state_24 (by decide) ?_
    exact X_ret (z := (-1)) dX12_state_25 rfl (fun hv => vok_h hv) ⟨rfl, _, (hc2.1 c3), mr1, mf1⟩
  · refine X_aload_n dX12_state_9 rfl ?_
    refine X_getfield (ci := 12) (k := 52) (v := vr (a 52)) dX12_state_10 rfl (by decide) kf_RX12_116 (congrArg vr (MR.ar mr1 (k := 52) (by decide)).1) mr1.1 ?_
    refine X_sipush dX12_state_13 (by decide) (by decide) ?_
    refine X_iload_n dX12_state_16 rfl ?_
    refine X_imulN dX12_state_17 (hc2.2 c3).1 (hc2.2 c3).2.1 ?_
    refine X_iload_n dX12_state_18 rfl ?_
    refine X_iaddN dX12_state_19 (hc2.2 c3).2.2.1 (hc2.2 c3).2.2.2.1 ?_
    refine X_iaload dX12_state_20 ((MR.ar mr1 (k := 52) (by decide)).2.1.trans (by decide)) (hc2.2 c3).2.2.2.2.1 (lt_eq (hc2.2 c3).2.2.2.2.2.1 (MR.ln mr1 (k := 52) (by decide) (by decide))) ?_
    refine X_top (v := vi (M1 52 ((160 * x1) + x2))) (congrArg vi (MR.el mr1 (k := 52) (by decide) rfl)) ?_
    refine X_goto dX12_state_21 (tgt := 25) rfl ?_
    exact X_ret (z := (M1 52 ((160 * x1) + x2))) dX12_state_25 rfl (fun hv => vok_h hv) ⟨rfl, _, (hc2.2 c3).2.2.2.2.2.2, mr1, mf1⟩
def B_letter_0 (rc : MP) (cl : MC) (Q : Int → Mem → Prop) (d : Nat) (x1 x2 x3 x4 : Int) (M : Mem) : Prop := (x3 ≠ (-1) → cl n_isConstant_0 [x1, x2, x3] M (fun z2 M2 => (z2 ≠ 0 → -2147483648 ≤ 12 * x1 ∧ 12 * x1 ≤ 2147483647 ∧ -2147483648 ≤ (12 * x1) + x2 ∧ (12 * x1) + x2 ≤ 2147483647 ∧ (x3 ≠ (-1) → -2147483648 ≤ 24 * ((12 * x1) + x2) ∧ 24 * ((12 * x1) + x2) ≤ 2147483647 ∧ -2147483648 ≤ (24 * ((12 * x1) + x2)) + x3 ∧ (24 * ((12 * x1) + x2)) + x3 ≤ 2147483647 ∧ 0 ≤ ((24 * ((12 * x1) + x2)) + x3) ∧ ((24 * ((12 * x1) + x2)) + x3) < 2880 ∧ (x4 < 0 → Q (-1) M2) ∧ (¬ (x4 < 0) → (((M2 20 ((24 * ((12 * x1) + x2)) + x3)).tmod 16) ≤ x4 → Q (-1) M2) ∧ (¬ (((M2 20 ((24 * ((12 * x1) + x2)) + x3)).tmod 16) ≤ x4) → -2147483648 ≤ ((M2 20 ((24 * ((12 * x1) + x2)) + x3)).tdiv 16) + x4 ∧ ((M2 20 ((24 * ((12 * x1) + x2)) + x3)).tdiv 16) + x4 ≤ 2147483647 ∧ 0 ≤ (((M2 20 ((24 * ((12 * x1) + x2)) + x3)).tdiv 16) + x4) ∧ (((M2 20 ((24 * ((12 * x1) + x2)) + x3)).tdiv 16) + x4) < 30000 ∧ Q (M2 7 (((M2 20 ((24 * ((12 * x1) + x2)) + x3)).tdiv 16) + x4)) M2))) ∧ (¬ (x3 ≠ (-1)) → 0 ≤ ((12 * x1) + x2) ∧ ((12 * x1) + x2) < 120 ∧ (x4 < 0 → Q (-1) M2) ∧ (¬ (x4 < 0) → (((M2 13 ((12 * x1) + x2)).tmod 16) ≤ x4 → Q (-1) M2) ∧ (¬ (((M2 13 ((12 * x1) + x2)).tmod 16) ≤ x4) → -2147483648 ≤ ((M2 13 ((12 * x1) + x2)).tdiv 16) + x4 ∧ ((M2 13 ((12 * x1) + x2)).tdiv 16) + x4 ≤ 2147483647 ∧ 0 ≤ (((M2 13 ((12 * x1) + x2)).tdiv 16) + x4) ∧ (((M2 13 ((12 * x1) + x2)).tdiv 16) + x4) < 30000 ∧ Q (M2 7 (((M2 13 ((12 * x1) + x2)).tdiv 16) + x4)) M2)))) ∧ (¬ (z2 ≠ 0) → Q (-1) M2))) ∧ (¬ (x3 ≠ (-1)) → cl n_isEnum_0 [x1, x2] M (fun z10 M10 => (z10 = 0 → Q (-1) M10) ∧ (¬ (z10 = 0) → -2147483648 ≤ 12 * x1 ∧ 12 * x1 ≤ 2147483647 ∧ -2147483648 ≤ (12 * x1) + x2 ∧ (12 * x1) + x2 ≤ 2147483647 ∧ (x3 ≠ (-1) → -2147483648 ≤ 24 * ((12 * x1) + x2) ∧ 24 * ((12 * x1) + x2) ≤ 2147483647 ∧ -2147483648 ≤ (24 * ((12 * x1) + x2)) + x3 ∧ (24 * ((12 * x1) + x2)) + x3 ≤ 2147483647 ∧ 0 ≤ ((24 * ((12 * x1) + x2)) + x3) ∧ ((24 * ((12 * x1) + x2)) + x3) < 2880 ∧ (x4 < 0 → Q (-1) M10) ∧ (¬ (x4 < 0) → (((M10 20 ((24 * ((12 * x1) + x2)) + x3)).tmod 16) ≤ x4 → Q (-1) M10) ∧ (¬ (((M10 20 ((24 * ((12 * x1) + x2)) + x3)).tmod 16) ≤ x4) → -2147483648 ≤ ((M10 20 ((24 * ((12 * x1) + x2)) + x3)).tdiv 16) + x4 ∧ ((M10 20 ((24 * ((12 * x1) + x2)) + x3)).tdiv 16) + x4 ≤ 2147483647 ∧ 0 ≤ (((M10 20 ((24 * ((12 * x1) + x2)) + x3)).tdiv 16) + x4) ∧ (((M10 20 ((24 * ((12 * x1) + x2)) + x3)).tdiv 16) + x4) < 30000 ∧ Q (M10 7 (((M10 20 ((24 * ((12 * x1) + x2)) + x3)).tdiv 16) + x4)) M10))) ∧ (¬ (x3 ≠ (-1)) → 0 ≤ ((12 * x1) + x2) ∧ ((12 * x1) + x2) < 120 ∧ (x4 < 0 → Q (-1) M10) ∧ (¬ (x4 < 0) → (((M10 13 ((12 * x1) + x2)).tmod 16) ≤ x4 → Q (-1) M10) ∧ (¬ (((M10 13 ((12 * x1) + x2)).tmod 16) ≤ x4) → -2147483648 ≤ ((M10 13 ((12 * x1) + x2)).tdiv 16) + x4 ∧ ((M10 13 ((12 * x1) + x2)).tdiv 16) + x4 ≤ 2147483647 ∧ 0 ≤ (((M10 13 ((12 * x1) + x2)).tdiv 16) + x4) ∧ (((M10 13 ((12 * x1) + x2)).tdiv 16) + x4) < 30000 ∧ Q (M10 7 (((M10 13 ((12 * x1) + x2)).tdiv 16) + x4)) M10))))))
set_option maxRecDepth 10000 in
theorem s_letter_0 {l : Launch} {G : GT} {m : Int} {a : Int → Int} {d mc ms : Nat} {S : Sh} {Q : Int → Mem → Prop} {rc : MP} {cl : MC} {V0 V M : Mem} {x1 x2 x3 x4 : Int} (hrc : RCok l G m a S V0 Q d mc ms rc) (hcl : CLok l G m a S d cl) (mr : MR m a S V M) (mf : MF m a V0 V) (hB : B_letter_0 rc cl Q d x1 x2 x3 x4 M) : XJ l G bX12_letter (Qm m a S V0 Q) (d + 1) 0 [vr m, vi x1, vi x2, vi x3, vi x4, vu, vu] [] S V mc ms := by
  unfold B_letter_0 at hB
  refine X_iload_n dX12_letter_0 rfl ?_
  refine X_iconst dX12_letter_1 (by decide) ?_
  refine X_icmp_ne dX12_letter_2 (tgt := 17) rfl (fun c1 => ?_) (fun c1 => ?_)
  · refine X_aload_n dX12_letter_17 rfl ?_
    refine X_iload_n dX12_letter_18 rfl ?_
    refine X_iload_n dX12_letter_19 rfl ?_
    refine X_iload_n dX12_letter_20 rfl ?_
    refine X_invV (ci := 12) (as := [vi x1, vi x2, vi x3]) (st := []) okX12_isConstant dX12_letter_21 km_RX12_451 rfl rfl (Nat.le_of_ble_eq_true rfl) rfl rfl mr.1 (CT.of d 0 0 (hcl n_isConstant_0 rfl [x1, x2, x3] _ _ _ (hB.1 c1) mr) (Nat.le_refl _) (Nat.zero_le _) (Nat.zero_le _) (fun z2 S2 V2 hq2 => ?_))
    obtain ⟨rfl, M2, hc3, mr2, hf2⟩ := hq2
    have mf2 := MF.trans mf hf2
    refine X_if_ne dX12_letter_24 (tgt := 29) rfl (fun c4 => ?_) (fun c4 => ?_)
    · refine X_bipush dX12_letter_29 (by decide) (by decide) ?_
      refine X_iload_n dX12_letter_31 rfl ?_
      refine X_imulN dX12_letter_32 (hc3.1 c4).1 (hc3.1 c4).2.1 ?_
      refine X_iload_n dX12_letter_33 rfl ?_
      refine X_iaddN dX12_letter_34 (hc3.1 c4).2.2.1 (hc3.1 c4).2.2.2.1 ?_
      refine X_istore dX12_letter_35 (by decide) rfl ?_
      refine X_iload_n dX12_letter_37 rfl ?_
      refine X_iconst dX12_letter_38 (by decide) ?_
      refine X_icmp_ne dX12_letter_39 (tgt := 52) rfl (fun c5 => ?_) (fun c5 => ?_)
      · refine X_aload_n dX12_letter_52 rfl ?_
        refine X_getfield (ci := 12) (k := 20) (v := vr (a 20)) dX12_letter_53 rfl (by decide) kf_RX12_47 (congrArg vr (MR.ar mr2 (k := 20) (by decide)).1) mr2.1 ?_
        refine X_bipush dX12_letter_56 (by decide) (by decide) ?_
        refine X_iload dX12_letter_58 rfl ?_
        refine X_imulN dX12_letter_60 ((hc3.1 c4).2.2.2.2.1 c5).1 ((hc3.1 c4).2.2.2.2.1 c5).2.1 ?_
        refine X_iload_n dX12_letter_61 rfl ?_
        refine X_iaddN dX12_letter_62 ((hc3.1 c4).2.2.2.2.1 c5).2.2.1 ((hc3.1 c4).2.2.2.2.1 c5).2.2.2.1 ?_
        refine X_iaload dX12_letter_63 ((MR.ar mr2 (k := 20) (by decide)).2.1.trans (by decide)) ((hc3.1 c4).2.2.2.2.1 c5).2.2.2.2.1 (lt_eq ((hc3.1 c4).2.2.2.2.1 c5).2.2.2.2.2.1 (MR.ln mr2 (k := 20) (by decide) (by decide))) ?_
        refine X_top (v := vi (M2 20 ((24 * ((12 * x1) + x2)) + x3))) (congrArg vi (MR.el mr2 (k := 20) (by decide) rfl)) ?_
        refine X_istore dX12_letter_64 (by decide) rfl ?_
        refine X_iload dX12_letter_66 rfl ?_
        refine X_if_lt dX12_letter_68 (tgt := 97) rfl (fun c6 => ?_) (fun c6 => ?_)
        · refine X_iconst dX12_letter_97 (by decide) ?_
          exact X_ret (z := (-1)) dX12_letter_98 rfl (fun hv => vok_h hv) ⟨rfl, _, (((hc3.1 c4).2.2.2.2.1 c5).2.2.2.2.2.2.1 c6), mr2, mf2⟩
        · refine X_iload dX12_letter_71 rfl ?_
          refine X_iload dX12_letter_73 rfl ?_
          refine X_bipush dX12_letter_75 (by decide) (by decide) ?_
          refine X_iremP dX12_letter_77 (by decide) ?_
          refine X_icmp_ge dX12_letter_78 (tgt := 97) rfl (fun c7 => ?_) (fun c7 => ?_)
          · refine X_iconst dX12_letter_97 (by decide) ?_
            exact X_ret (z := (-1)) dX12_letter_98 rfl (fun hv => vok_h hv) ⟨rfl, _, ((((hc3.1 c4).2.2.2.2.1 c5).2.2.2.2.2.2.2 c6).1 c7), mr2, mf2⟩
          · refine X_aload_n dX12_letter_81 rfl ?_
            refine X_getfield (ci := 12) (k := 7) (v := vr (a 7)) dX12_letter_82 rfl (by decide) kf_RX12_13 (congrArg vr (MR.ar mr2 (k := 7) (by decide)).1) mr2.1 ?_
            refine X_iload dX12_letter_85 rfl ?_
            refine X_bipush dX12_letter_87 (by decide) (by decide) ?_
            refine X_idivP dX12_letter_89 (by decide) ?_
            refine X_iload dX12_letter_90 rfl ?_
            refine X_iaddN dX12_letter_92 ((((hc3.1 c4).2.2.2.2.1 c5).2.2.2.2.2.2.2 c6).2 c7).1 ((((hc3.1 c4).2.2.2.2.1 c5).2.2.2.2.2.2.2 c6).2 c7).2.1 ?_
            refine X_baload dX12_letter_93 ((MR.ar mr2 (k := 7) (by decide)).2.1.trans (by decide)) ((((hc3.1 c4).2.2.2.2.1 c5).2.2.2.2.2.2.2 c6).2 c7).2.2.1 (lt_eq ((((hc3.1 c4).2.2.2.2.1 c5).2.2.2.2.2.2.2 c6).2 c7).2.2.2.1 (MR.ln mr2 (k := 7) (by decide) (by decide))) ?_
            refine X_top (v := vi (M2 7 (((M2 20 ((24 * ((12 * x1) + x2)) + x3)).tdiv 16) + x4))) (congrArg vi (MR.el mr2 (k := 7) (by decide) rfl)) ?_
            refine X_goto dX12_letter_94 (tgt := 98) rfl ?_
            exact X_ret (z := (M2 7 (((M2 20 ((24 * ((12 * x1) + x2)) + x3)).tdiv 16) + x4))) dX12_letter_98 rfl (fun hv => vok_h hv) ⟨rfl, _, ((((hc3.1 c4).2.2.2.2.1 c5).2.2.2.2.2.2.2 c6).2 c7).2.2.2.2, mr2, mf2⟩
      · refine X_aload_n dX12_letter_42 rfl ?_
        refine X_getfield (ci := 12) (k := 13) (v := vr (a 13)) dX12_letter_43 rfl (by decide) kf_RX12_26 (congrArg vr (MR.ar mr2 (k := 13) (by decide)).1) mr2.1 ?_
        refine X_iload dX12_letter_46 rfl ?_
        refine X_iaload dX12_letter_48 ((MR.ar mr2 (k := 13) (by decide)).2.1.trans (by decide)) ((hc3.1 c4).2.2.2.2.2 c5).1 (lt_eq ((hc3.1 c4).2.2.2.2.2 c5).2.1 (MR.ln mr2 (k := 13) (by decide) (by decide))) ?_
        refine X_top (v := vi (M2 13 ((12 * x1) + x2))) (congrArg vi (MR.el mr2 (k := 13) (by decide) rfl)) ?_
        refine X_goto dX12_letter_49 (tgt := 64) rfl ?_
        refine X_istore dX12_letter_64 (by decide) rfl ?_
        refine X_iload dX12_letter_66 rfl ?_
        refine X_if_lt dX12_letter_68 (tgt := 97) rfl (fun c8 => ?_) (fun c8 => ?_)
        · refine X_iconst dX12_letter_97 (by decide) ?_
          exact X_ret (z := (-1)) dX12_letter_98 rfl (fun hv => vok_h hv) ⟨rfl, _, (((hc3.1 c4).2.2.2.2.2 c5).2.2.1 c8), mr2, mf2⟩
        · refine X_iload dX12_letter_71 rfl ?_
          refine X_iload dX12_letter_73 rfl ?_
          refine X_bipush dX12_letter_75 (by decide) (by decide) ?_
          refine X_iremP dX12_letter_77 (by decide) ?_
          refine X_icmp_ge dX12_letter_78 (tgt := 97) rfl (fun c9 => ?_) (fun c9 => ?_)
          · refine X_iconst dX12_letter_97 (by decide) ?_
            exact X_ret (z := (-1)) dX12_letter_98 rfl (fun hv => vok_h hv) ⟨rfl, _, ((((hc3.1 c4).2.2.2.2.2 c5).2.2.2 c8).1 c9), mr2, mf2⟩
          · refine X_aload_n dX12_letter_81 rfl ?_
            refine X_getfield (ci := 12) (k := 7) (v := vr (a 7)) dX12_letter_82 rfl (by decide) kf_RX12_13 (congrArg vr (MR.ar mr2 (k := 7) (by decide)).1) mr2.1 ?_
            refine X_iload dX12_letter_85 rfl ?_
            refine X_bipush dX12_letter_87 (by decide) (by decide) ?_
            refine X_idivP dX12_letter_89 (by decide) ?_
            refine X_iload dX12_letter_90 rfl ?_
            refine X_iaddN dX12_letter_92 ((((hc3.1 c4).2.2.2.2.2 c5).2.2.2 c8).2 c9).1 ((((hc3.1 c4).2.2.2.2.2 c5).2.2.2 c8).2 c9).2.1 ?_
            refine X_baload dX12_letter_93 ((MR.ar mr2 (k := 7) (by decide)).2.1.trans (by decide)) ((((hc3.1 c4).2.2.2.2.2 c5).2.2.2 c8).2 c9).2.2.1 (lt_eq ((((hc3.1 c4).2.2.2.2.2 c5).2.2.2 c8).2 c9).2.2.2.1 (MR.ln mr2 (k := 7) (by decide) (by decide))) ?_
            refine X_top (v := vi (M2 7 (((M2 13 ((12 * x1) + x2)).tdiv 16) + x4))) (congrArg vi (MR.el mr2 (k := 7) (by decide) rfl)) ?_
            refine X_goto dX12_letter_94 (tgt := 98) rfl ?_
            exact X_ret (z := (M2 7 (((M2 13 ((12 * x1) + x2)).tdiv 16) + x4))) dX12_letter_98 rfl (fun hv => vok_h hv) ⟨rfl, _, ((((hc3.1 c4).2.2.2.2.2 c5).2.2.2 c8).2 c9).2.2.2.2, mr2, mf2⟩
    · refine X_iconst dX12_letter_27 (by decide) ?_
      exact X_ret (z := (-1)) dX12_letter_28 rfl (fun hv => vok_h hv) ⟨rfl, _, (hc3.2 c4), mr2, mf2⟩
  · refine X_aload_n dX12_letter_5 rfl ?_
    refine X_iload_n dX12_letter_6 rfl ?_
    refine X_iload_n dX12_letter_7 rfl ?_
    refine X_invV (ci := 12) (as := [vi x1, vi x2]) (st := []) okX12_isEnum dX12_letter_8 km_RX12_439 rfl rfl (Nat.le_of_ble_eq_true rfl) rfl rfl mr.1 (CT.of d 0 0 (hcl n_isEnum_0 rfl [x1, x2] _ _ _ (hB.2 c1) mr) (Nat.le_refl _) (Nat.zero_le _) (Nat.zero_le _) (fun z10 S10 V10 hq10 => ?_))
    obtain ⟨rfl, M10, hc11, mr10, hf10⟩ := hq10
    have mf10 := MF.trans mf hf10
    refine X_if_eq dX12_letter_11 (tgt := 27) rfl (fun c12 => ?_) (fun c12 => ?_)
    · refine X_iconst dX12_letter_27 (by decide) ?_
      exact X_ret (z := (-1)) dX12_letter_28 rfl (fun hv => vok_h hv) ⟨rfl, _, (hc11.1 c12), mr10, mf10⟩
    · refine X_goto dX12_letter_14 (tgt := 29) rfl ?_
      refine X_bipush dX12_letter_29 (by decide) (by decide) ?_
      refine X_iload_n dX12_letter_31 rfl ?_
      refine X_imulN dX12_letter_32 (hc11.2 c12).1 (hc11.2 c12).2.1 ?_
      refine X_iload_n dX12_letter_33 rfl ?_
      refine X_iaddN dX12_letter_34 (hc11.2 c12).2.2.1 (hc11.2 c12).2.2.2.1 ?_
      refine X_istore dX12_letter_35 (by decide) rfl ?_
      refine X_iload_n dX12_letter_37 rfl ?_
      refine X_iconst dX12_letter_38 (by decide) ?_
      refine X_icmp_ne dX12_letter_39 (tgt := 52) rfl (fun c13 => ?_) (fun c13 => ?_)
      · refine X_aload_n dX12_letter_52 rfl ?_
        refine X_getfield (ci := 12) (k := 20) (v := vr (a 20)) dX12_letter_53 rfl (by decide) kf_RX12_47 (congrArg vr (MR.ar mr10 (k := 20) (by decide)).1) mr10.1 ?_
        refine X_bipush dX12_letter_56 (by decide) (by decide) ?_
        refine X_iload dX12_letter_58 rfl ?_
        refine X_imulN dX12_letter_60 ((hc11.2 c12).2.2.2.2.1 c13).1 ((hc11.2 c12).2.2.2.2.1 c13).2.1 ?_
        refine X_iload_n dX12_letter_61 rfl ?_
        refine X_iaddN dX12_letter_62 ((hc11.2 c12).2.2.2.2.1 c13).2.2.1 ((hc11.2 c12).2.2.2.2.1 c13).2.2.2.1 ?_
        refine X_iaload dX12_letter_63 ((MR.ar mr10 (k := 20) (by decide)).2.1.trans (by decide)) ((hc11.2 c12).2.2.2.2.1 c13).2.2.2.2.1 (lt_eq ((hc11.2 c12).2.2.2.2.1 c13).2.2.2.2.2.1 (MR.ln mr10 (k := 20) (by decide) (by decide))) ?_
        refine X_top (v := vi (M10 20 ((24 * ((12 * x1) + x2)) + x3))) (congrArg vi (MR.el mr10 (k := 20) (by decide) rfl)) ?_
        refine X_istore dX12_letter_64 (by decide) rfl ?_
        refine X_iload dX12_letter_66 rfl ?_
        refine X_if_lt dX12_letter_68 (tgt := 97) rfl (fun c14 => ?_) (fun c14 => ?_)
        · refine X_iconst dX12_letter_97 (by decide) ?_
          exact X_ret (z := (-1)) dX12_letter_98 rfl (fun hv => vok_h hv) ⟨rfl, _, (((hc11.2 c12).2.2.2.2.1 c13).2.2.2.2.2.2.1 c14), mr10, mf10⟩
        · refine X_iload dX12_letter_71 rfl ?_
          refine X_iload dX12_letter_73 rfl ?_
          refine X_bipush dX12_letter_75 (by decide) (by decide) ?_
          refine X_iremP dX12_letter_77 (by decide) ?_
          refine X_icmp_ge dX12_letter_78 (tgt := 97) rfl (fun c15 => ?_) (fun c15 => ?_)
          · refine X_iconst dX12_letter_97 (by decide) ?_
            exact X_ret (z := (-1)) dX12_letter_98 rfl (fun hv => vok_h hv) ⟨rfl, _, ((((hc11.2 c12).2.2.2.2.1 c13).2.2.2.2.2.2.2 c14).1 c15), mr10, mf10⟩
          · refine X_aload_n dX12_letter_81 rfl ?_
            refine X_getfield (ci := 12) (k := 7) (v := vr (a 7)) dX12_letter_82 rfl (by decide) kf_RX12_13 (congrArg vr (MR.ar mr10 (k := 7) (by decide)).1) mr10.1 ?_
            refine X_iload dX12_letter_85 rfl ?_
            refine X_bipush dX12_letter_87 (by decide) (by decide) ?_
            refine X_idivP dX12_letter_89 (by decide) ?_
            refine X_iload dX12_letter_90 rfl ?_
            refine X_iaddN dX12_letter_92 ((((hc11.2 c12).2.2.2.2.1 c13).2.2.2.2.2.2.2 c14).2 c15).1 ((((hc11.2 c12).2.2.2.2.1 c13).2.2.2.2.2.2.2 c14).2 c15).2.1 ?_
            refine X_baload dX12_letter_93 ((MR.ar mr10 (k := 7) (by decide)).2.1.trans (by decide)) ((((hc11.2 c12).2.2.2.2.1 c13).2.2.2.2.2.2.2 c14).2 c15).2.2.1 (lt_eq ((((hc11.2 c12).2.2.2.2.1 c13).2.2.2.2.2.2.2 c14).2 c15).2.2.2.1 (MR.ln mr10 (k := 7) (by decide) (by decide))) ?_
            refine X_top (v := vi (M10 7 (((M10 20 ((24 * ((12 * x1) + x2)) + x3)).tdiv 16) + x4))) (congrArg vi (MR.el mr10 (k := 7) (by decide) rfl)) ?_
            refine X_goto dX12_letter_94 (tgt := 98) rfl ?_
            exact X_ret (z := (M10 7 (((M10 20 ((24 * ((12 * x1) + x2)) + x3)).tdiv 16) + x4))) dX12_letter_98 rfl (fun hv => vok_h hv) ⟨rfl, _, ((((hc11.2 c12).2.2.2.2.1 c13).2.2.2.2.2.2.2 c14).2 c15).2.2.2.2, mr10, mf10⟩
      · refine X_aload_n dX12_letter_42 rfl ?_
        refine X_getfield (ci := 12) (k := 13) (v := vr (a 13)) dX12_letter_43 rfl (by decide) kf_RX12_26 (congrArg vr (MR.ar mr10 (k := 13) (by decide)).1) mr10.1 ?_
        refine X_iload dX12_letter_46 rfl ?_
        refine X_iaload dX12_letter_48 ((MR.ar mr10 (k := 13) (by decide)).2.1.trans (by decide)) ((hc11.2 c12).2.2.2.2.2 c13).1 (lt_eq ((hc11.2 c12).2.2.2.2.2 c13).2.1 (MR.ln mr10 (k := 13) (by decide) (by decide))) ?_
        refine X_top (v := vi (M10 13 ((12 * x1) + x2))) (congrArg vi (MR.el mr10 (k := 13) (by decide) rfl)) ?_
        refine X_goto dX12_letter_49 (tgt := 64) rfl ?_
        refine X_istore dX12_letter_64 (by decide) rfl ?_
        refine X_iload dX12_letter_66 rfl ?_
        refine X_if_lt dX12_letter_68 (tgt := 97) rfl (fun c16 => ?_) (fun c16 => ?_)
        · refine X_iconst dX12_letter_97 (by decide) ?_
          exact X_ret (z := (-1)) dX12_letter_98 rfl (fun hv => vok_h hv) ⟨rfl, _, (((hc11.2 c12).2.2.2.2.2 c13).2.2.1 c16), mr10, mf10⟩
        · refine X_iload dX12_letter_71 rfl ?_
          refine X_iload dX12_letter_73 rfl ?_
          refine X_bipush dX12_letter_75 (by decide) (by decide) ?_
          refine X_iremP dX12_letter_77 (by decide) ?_
          refine X_icmp_ge dX12_letter_78 (tgt := 97) rfl (fun c17 => ?_) (fun c17 => ?_)
          · refine X_iconst dX12_letter_97 (by decide) ?_
            exact X_ret (z := (-1)) dX12_letter_98 rfl (fun hv => vok_h hv) ⟨rfl, _, ((((hc11.2 c12).2.2.2.2.2 c13).2.2.2 c16).1 c17), mr10, mf10⟩
          · refine X_aload_n dX12_letter_81 rfl ?_
            refine X_getfield (ci := 12) (k := 7) (v := vr (a 7)) dX12_letter_82 rfl (by decide) kf_RX12_13 (congrArg vr (MR.ar mr10 (k := 7) (by decide)).1) mr10.1 ?_
            refine X_iload dX12_letter_85 rfl ?_
            refine X_bipush dX12_letter_87 (by decide) (by decide) ?_
            refine X_idivP dX12_letter_89 (by decide) ?_
            refine X_iload dX12_letter_90 rfl ?_
            refine X_iaddN dX12_letter_92 ((((hc11.2 c12).2.2.2.2.2 c13).2.2.2 c16).2 c17).1 ((((hc11.2 c12).2.2.2.2.2 c13).2.2.2 c16).2 c17).2.1 ?_
            refine X_baload dX12_letter_93 ((MR.ar mr10 (k := 7) (by decide)).2.1.trans (by decide)) ((((hc11.2 c12).2.2.2.2.2 c13).2.2.2 c16).2 c17).2.2.1 (lt_eq ((((hc11.2 c12).2.2.2.2.2 c13).2.2.2 c16).2 c17).2.2.2.1 (MR.ln mr10 (k := 7) (by decide) (by decide))) ?_
            refine X_top (v := vi (M10 7 (((M10 13 ((12 * x1) + x2)).tdiv 16) + x4))) (congrArg vi (MR.el mr10 (k := 7) (by decide) rfl)) ?_
            refine X_goto dX12_letter_94 (tgt := 98) rfl ?_
            exact X_ret (z := (M10 7 (((M10 13 ((12 * x1) + x2)).tdiv 16) + x4))) dX12_letter_98 rfl (fun hv => vok_h hv) ⟨rfl, _, ((((hc11.2 c12).2.2.2.2.2 c13).2.2.2 c16).2 c17).2.2.2.2, mr10, mf10⟩
def B_body_0 (rc : MP) (cl : MC) (Q : Int → Mem → Prop) (d : Nat) (x1 x2 x3 x4 : Int) (M : Mem) : Prop := (x3 ≠ (-1) → cl n_isConstant_0 [x1, x2, x3] M (fun z2 M2 => (z2 = 0 → Q (-1) M2) ∧ (¬ (z2 = 0) → (x4 < 0 → Q (-1) M2) ∧ (¬ (x4 < 0) → 0 ≤ x1 ∧ x1 < 10 ∧ (x4 < (M2 11 x1) → -2147483648 ≤ 12 * x1 ∧ 12 * x1 ≤ 2147483647 ∧ -2147483648 ≤ (12 * x1) + x2 ∧ (12 * x1) + x2 ≤ 2147483647 ∧ (x3 ≠ (-1) → -2147483648 ≤ 24 * ((12 * x1) + x2) ∧ 24 * ((12 * x1) + x2) ≤ 2147483647 ∧ -2147483648 ≤ (24 * ((12 * x1) + x2)) + x3 ∧ (24 * ((12 * x1) + x2)) + x3 ≤ 2147483647 ∧ -2147483648 ≤ 4 * ((24 * ((12 * x1) + x2)) + x3) ∧ 4 * ((24 * ((12 * x1) + x2)) + x3) ≤ 2147483647 ∧ -2147483648 ≤ (4 * ((24 * ((12 * x1) + x2)) + x3)) + x4 ∧ (4 * ((24 * ((12 * x1) + x2)) + x3)) + x4 ≤ 2147483647 ∧ 0 ≤ ((4 * ((24 * ((12 * x1) + x2)) + x3)) + x4) ∧ ((4 * ((24 * ((12 * x1) + x2)) + x3)) + x4) < 11520 ∧ ((M2 22 ((4 * ((24 * ((12 * x1) + x2)) + x3)) + x4)) = (-1) → Q 0 M2) ∧ (¬ ((M2 22 ((4 * ((24 * ((12 * x1) + x2)) + x3)) + x4)) = (-1)) → Q 1 M2)) ∧ (¬ (x3 ≠ (-1)) → -2147483648 ≤ 4 * ((12 * x1) + x2) ∧ 4 * ((12 * x1) + x2) ≤ 2147483647 ∧ -2147483648 ≤ (4 * ((12 * x1) + x2)) + x4 ∧ (4 * ((12 * x1) + x2)) + x4 ≤ 2147483647 ∧ 0 ≤ ((4 * ((12 * x1) + x2)) + x4) ∧ ((4 * ((12 * x1) + x2)) + x4) < 480 ∧ ((M2 19 ((4 * ((12 * x1) + x2)) + x4)) = (-1) → Q 0 M2) ∧ (¬ ((M2 19 ((4 * ((12 * x1) + x2)) + x4)) = (-1)) → Q 1 M2))) ∧ (¬ (x4 < (M2 11 x1)) → Q (-1) M2))))) ∧ (¬ (x3 ≠ (-1)) → cl n_isEnum_0 [x1, x2] M (fun z10 M10 => (z10 = 0 → Q (-1) M10) ∧ (¬ (z10 = 0) → (x4 < 0 → Q (-1) M10) ∧ (¬ (x4 < 0) → 0 ≤ x1 ∧ x1 < 10 ∧ (x4 < (M10 11 x1) → -2147483648 ≤ 12 * x1 ∧ 12 * x1 ≤ 2147483647 ∧ -2147483648 ≤ (12 * x1) + x2 ∧ (12 * x1) + x2 ≤ 2147483647 ∧ (x3 ≠ (-1) → -2147483648 ≤ 24 * ((12 * x1) + x2) ∧ 24 * ((12 * x1) + x2) ≤ 2147483647 ∧ -2147483648 ≤ (24 * ((12 * x1) + x2)) + x3 ∧ (24 * ((12 * x1) + x2)) + x3 ≤ 2147483647 ∧ -2147483648 ≤ 4 * ((24 * ((12 * x1) + x2)) + x3) ∧ 4 * ((24 * ((12 * x1) + x2)) + x3) ≤ 2147483647 ∧ -2147483648 ≤ (4 * ((24 * ((12 * x1) + x2)) + x3)) + x4 ∧ (4 * ((24 * ((12 * x1) + x2)) + x3)) + x4 ≤ 2147483647 ∧ 0 ≤ ((4 * ((24 * ((12 * x1) + x2)) + x3)) + x4) ∧ ((4 * ((24 * ((12 * x1) + x2)) + x3)) + x4) < 11520 ∧ ((M10 22 ((4 * ((24 * ((12 * x1) + x2)) + x3)) + x4)) = (-1) → Q 0 M10) ∧ (¬ ((M10 22 ((4 * ((24 * ((12 * x1) + x2)) + x3)) + x4)) = (-1)) → Q 1 M10)) ∧ (¬ (x3 ≠ (-1)) → -2147483648 ≤ 4 * ((12 * x1) + x2) ∧ 4 * ((12 * x1) + x2) ≤ 2147483647 ∧ -2147483648 ≤ (4 * ((12 * x1) + x2)) + x4 ∧ (4 * ((12 * x1) + x2)) + x4 ≤ 2147483647 ∧ 0 ≤ ((4 * ((12 * x1) + x2)) + x4) ∧ ((4 * ((12 * x1) + x2)) + x4) < 480 ∧ ((M10 19 ((4 * ((12 * x1) + x2)) + x4)) = (-1) → Q 0 M10) ∧ (¬ ((M10 19 ((4 * ((12 * x1) + x2)) + x4)) = (-1)) → Q 1 M10))) ∧ (¬ (x4 < (M10 11 x1)) → Q (-1) M10)))))
set_option maxRecDepth 10000 in
theorem s_body_0 {l : Launch} {G : GT} {m : Int} {a : Int → Int} {d mc ms : Nat} {S : Sh} {Q : Int → Mem → Prop} {rc : MP} {cl : MC} {V0 V M : Mem} {x1 x2 x3 x4 : Int} (hrc : RCok l G m a S V0 Q d mc ms rc) (hcl : CLok l G m a S d cl) (mr : MR m a S V M) (mf : MF m a V0 V) (hB : B_body_0 rc cl Q d x1 x2 x3 x4 M) : XJ l G bX12_body (Qm m a S V0 Q) (d + 1) 0 [vr m, vi x1, vi x2, vi x3, vi x4, vu] [] S V mc ms := by
  unfold B_body_0 at hB
  refine X_iload_n dX12_body_0 rfl ?_
  refine X_iconst dX12_body_1 (by decide) ?_
  refine X_icmp_ne dX12_body_2 (tgt := 17) rfl (fun c1 => ?_) (fun c1 => ?_)
  · refine X_aload_n dX12_body_17 rfl ?_
    refine X_iload_n dX12_body_18 rfl ?_
    refine X_iload_n dX12_body_19 rfl ?_
    refine X_iload_n dX12_body_20 rfl ?_
    refine X_invV (ci := 12) (as := [vi x1, vi x2, vi x3]) (st := []) okX12_isConstant dX12_body_21 km_RX12_451 rfl rfl (Nat.le_of_ble_eq_true rfl) rfl rfl mr.1 (CT.of d 0 0 (hcl n_isConstant_0 rfl [x1, x2, x3] _ _ _ (hB.1 c1) mr) (Nat.le_refl _) (Nat.zero_le _) (Nat.zero_le _) (fun z2 S2 V2 hq2 => ?_))
    obtain ⟨rfl, M2, hc3, mr2, hf2⟩ := hq2
    have mf2 := MF.trans mf hf2
    refine X_if_eq dX12_body_24 (tgt := 43) rfl (fun c4 => ?_) (fun c4 => ?_)
    · refine X_iconst dX12_body_43 (by decide) ?_
      exact X_ret (z := (-1)) dX12_body_44 rfl (fun hv => vok_h hv) ⟨rfl, _, (hc3.1 c4), mr2, mf2⟩
    · refine X_iload dX12_body_27 rfl ?_
      refine X_if_lt dX12_body_29 (tgt := 43) rfl (fun c5 => ?_) (fun c5 => ?_)
      · refine X_iconst dX12_body_43 (by decide) ?_
        exact X_ret (z := (-1)) dX12_body_44 rfl (fun hv => vok_h hv) ⟨rfl, _, ((hc3.2 c4).1 c5), mr2, mf2⟩
      · refine X_iload dX12_body_32 rfl ?_
        refine X_aload_n dX12_body_34 rfl ?_
        refine X_getfield (ci := 12) (k := 11) (v := vr (a 11)) dX12_body_35 rfl (by decide) kf_RX12_20 (congrArg vr (MR.ar mr2 (k := 11) (by decide)).1) mr2.1 ?_
        refine X_iload_n dX12_body_38 rfl ?_
        refine X_iaload dX12_body_39 ((MR.ar mr2 (k := 11) (by decide)).2.1.trans (by decide)) ((hc3.2 c4).2 c5).1 (lt_eq ((hc3.2 c4).2 c5).2.1 (MR.ln mr2 (k := 11) (by decide) (by decide))) ?_
        refine X_top (v := vi (M2 11 x1)) (congrArg vi (MR.el mr2 (k := 11) (by decide) rfl)) ?_
        refine X_icmp_lt dX12_body_40 (tgt := 45) rfl (fun c6 => ?_) (fun c6 => ?_)
        · refine X_bipush dX12_body_45 (by decide) (by decide) ?_
          refine X_iload_n dX12_body_47 rfl ?_
          refine X_imulN dX12_body_48 (((hc3.2 c4).2 c5).2.2.1 c6).1 (((hc3.2 c4).2 c5).2.2.1 c6).2.1 ?_
          refine X_iload_n dX12_body_49 rfl ?_
          refine X_iaddN dX12_body_50 (((hc3.2 c4).2 c5).2.2.1 c6).2.2.1 (((hc3.2 c4).2 c5).2.2.1 c6).2.2.2.1 ?_
          refine X_istore dX12_body_51 (by decide) rfl ?_
          refine X_iload_n dX12_body_53 rfl ?_
          refine X_iconst dX12_body_54 (by decide) ?_
          refine X_icmp_ne dX12_body_55 (tgt := 73) rfl (fun c7 => ?_) (fun c7 => ?_)
          · refine X_aload_n dX12_body_73 rfl ?_
            refine X_getfield (ci := 12) (k := 22) (v := vr (a 22)) dX12_body_74 rfl (by decide) kf_RX12_53 (congrArg vr (MR.ar mr2 (k := 22) (by decide)).1) mr2.1 ?_
            refine X_iconst dX12_body_77 (by decide) ?_
            refine X_bipush dX12_body_78 (by decide) (by decide) ?_
            refine X_iload dX12_body_80 rfl ?_
            refine X_imulN dX12_body_82 ((((hc3.2 c4).2 c5).2.2.1 c6).2.2.2.2.1 c7).1 ((((hc3.2 c4).2 c5).2.2.1 c6).2.2.2.2.1 c7).2.1 ?_
            refine X_iload_n dX12_body_83 rfl ?_
            refine X_iaddN dX12_body_84 ((((hc3.2 c4).2 c5).2.2.1 c6).2.2.2.2.1 c7).2.2.1 ((((hc3.2 c4).2 c5).2.2.1 c6).2.2.2.2.1 c7).2.2.2.1 ?_
            refine X_imulN dX12_body_85 ((((hc3.2 c4).2 c5).2.2.1 c6).2.2.2.2.1 c7).2.2.2.2.1 ((((hc3.2 c4).2 c5).2.2.1 c6).2.2.2.2.1 c7).2.2.2.2.2.1 ?_
            refine X_iload dX12_body_86 rfl ?_
            refine X_iaddN dX12_body_88 ((((hc3.2 c4).2 c5).2.2.1 c6).2.2.2.2.1 c7).2.2.2.2.2.2.1 ((((hc3.2 c4).2 c5).2.2.1 c6).2.2.2.2.1 c7).2.2.2.2.2.2.2.1 ?_
            refine X_iaload dX12_body_89 ((MR.ar mr2 (k := 22) (by decide)).2.1.trans (by decide)) ((((hc3.2 c4).2 c5).2.2.1 c6).2.2.2.2.1 c7).2.2.2.2.2.2.2.2.1 (lt_eq ((((hc3.2 c4).2 c5).2.2.1 c6).2.2.2.2.1 c7).2.2.2.2.2.2.2.2.2.1 (MR.ln mr2 (k := 22) (by decide) (by decide))) ?_
            refine X_top (v := vi (M2 22 ((4 * ((24 * ((12 * x1) + x2)) + x3)) + x4))) (congrArg vi (MR.el mr2 (k := 22) (by decide) rfl)) ?_
            refine X_iconst dX12_body_90 (by decide) ?_
            refine X_icmp_eq dX12_body_91 (tgt := 98) rfl (fun c8 => ?_) (fun c8 => ?_)
            · refine X_iconst dX12_body_98 (by decide) ?_
              exact X_ret (z := 0) dX12_body_99 rfl (fun hv => vok_h hv) ⟨rfl, _, (((((hc3.2 c4).2 c5).2.2.1 c6).2.2.2.2.1 c7).2.2.2.2.2.2.2.2.2.2.1 c8), mr2, mf2⟩
            · refine X_iconst dX12_body_94 (by decide) ?_
              refine X_goto dX12_body_95 (tgt := 99) rfl ?_
              exact X_ret (z := 1) dX12_body_99 rfl (fun hv => vok_h hv) ⟨rfl, _, (((((hc3.2 c4).2 c5).2.2.1 c6).2.2.2.2.1 c7).2.2.2.2.2.2.2.2.2.2.2 c8), mr2, mf2⟩
          · refine X_aload_n dX12_body_58 rfl ?_
            refine X_getfield (ci := 12) (k := 19) (v := vr (a 19)) dX12_body_59 rfl (by decide) kf_RX12_44 (congrArg vr (MR.ar mr2 (k := 19) (by decide)).1) mr2.1 ?_
            refine X_iconst dX12_body_62 (by decide) ?_
            refine X_iload dX12_body_63 rfl ?_
            refine X_imulN dX12_body_65 ((((hc3.2 c4).2 c5).2.2.1 c6).2.2.2.2.2 c7).1 ((((hc3.2 c4).2 c5).2.2.1 c6).2.2.2.2.2 c7).2.1 ?_
            refine X_iload dX12_body_66 rfl ?_
            refine X_iaddN dX12_body_68 ((((hc3.2 c4).2 c5).2.2.1 c6).2.2.2.2.2 c7).2.2.1 ((((hc3.2 c4).2 c5).2.2.1 c6).2.2.2.2.2 c7).2.2.2.1 ?_
            refine X_iaload dX12_body_69 ((MR.ar mr2 (k := 19) (by decide)).2.1.trans (by decide)) ((((hc3.2 c4).2 c5).2.2.1 c6).2.2.2.2.2 c7).2.2.2.2.1 (lt_eq ((((hc3.2 c4).2 c5).2.2.1 c6).2.2.2.2.2 c7).2.2.2.2.2.1 (MR.ln mr2 (k := 19) (by decide) (by decide))) ?_
            refine X_top (v := vi (M2 19 ((4 * ((12 * x1) + x2)) + x4))) (congrArg vi (MR.el mr2 (k := 19) (by decide) rfl)) ?_
            refine X_goto dX12_body_70 (tgt := 90) rfl ?_
            refine X_iconst dX12_body_90 (by decide) ?_
            refine X_icmp_eq dX12_body_91 (tgt := 98) rfl (fun c9 => ?_) (fun c9 => ?_)
            · refine X_iconst dX12_body_98 (by decide) ?_
              exact X_ret (z := 0) dX12_body_99 rfl (fun hv => vok_h hv) ⟨rfl, _, (((((hc3.2 c4).2 c5).2.2.1 c6).2.2.2.2.2 c7).2.2.2.2.2.2.1 c9), mr2, mf2⟩
            · refine X_iconst dX12_body_94 (by decide) ?_
              refine X_goto dX12_body_95 (tgt := 99) rfl ?_
              exact X_ret (z := 1) dX12_body_99 rfl (fun hv => vok_h hv) ⟨rfl, _, (((((hc3.2 c4).2 c5).2.2.1 c6).2.2.2.2.2 c7).2.2.2.2.2.2.2 c9), mr2, mf2⟩
        · refine X_iconst dX12_body_43 (by decide) ?_
          exact X_ret (z := (-1)) dX12_body_44 rfl (fun hv => vok_h hv) ⟨rfl, _, (((hc3.2 c4).2 c5).2.2.2 c6), mr2, mf2⟩
  · refine X_aload_n dX12_body_5 rfl ?_
    refine X_iload_n dX12_body_6 rfl ?_
    refine X_iload_n dX12_body_7 rfl ?_
    refine X_invV (ci := 12) (as := [vi x1, vi x2]) (st := []) okX12_isEnum dX12_body_8 km_RX12_439 rfl rfl (Nat.le_of_ble_eq_true rfl) rfl rfl mr.1 (CT.of d 0 0 (hcl n_isEnum_0 rfl [x1, x2] _ _ _ (hB.2 c1) mr) (Nat.le_refl _) (Nat.zero_le _) (Nat.zero_le _) (fun z10 S10 V10 hq10 => ?_))
    obtain ⟨rfl, M10, hc11, mr10, hf10⟩ := hq10
    have mf10 := MF.trans mf hf10
    refine X_if_eq dX12_body_11 (tgt := 43) rfl (fun c12 => ?_) (fun c12 => ?_)
    · refine X_iconst dX12_body_43 (by decide) ?_
      exact X_ret (z := (-1)) dX12_body_44 rfl (fun hv => vok_h hv) ⟨rfl, _, (hc11.1 c12), mr10, mf10⟩
    · refine X_goto dX12_body_14 (tgt := 27) rfl ?_
      refine X_iload dX12_body_27 rfl ?_
      refine X_if_lt dX12_body_29 (tgt := 43) rfl (fun c13 => ?_) (fun c13 => ?_)
      · refine X_iconst dX12_body_43 (by decide) ?_
        exact X_ret (z := (-1)) dX12_body_44 rfl (fun hv => vok_h hv) ⟨rfl, _, ((hc11.2 c12).1 c13), mr10, mf10⟩
      · refine X_iload dX12_body_32 rfl ?_
        refine X_aload_n dX12_body_34 rfl ?_
        refine X_getfield (ci := 12) (k := 11) (v := vr (a 11)) dX12_body_35 rfl (by decide) kf_RX12_20 (congrArg vr (MR.ar mr10 (k := 11) (by decide)).1) mr10.1 ?_
        refine X_iload_n dX12_body_38 rfl ?_
        refine X_iaload dX12_body_39 ((MR.ar mr10 (k := 11) (by decide)).2.1.trans (by decide)) ((hc11.2 c12).2 c13).1 (lt_eq ((hc11.2 c12).2 c13).2.1 (MR.ln mr10 (k := 11) (by decide) (by decide))) ?_
        refine X_top (v := vi (M10 11 x1)) (congrArg vi (MR.el mr10 (k := 11) (by decide) rfl)) ?_
        refine X_icmp_lt dX12_body_40 (tgt := 45) rfl (fun c14 => ?_) (fun c14 => ?_)
        · refine X_bipush dX12_body_45 (by decide) (by decide) ?_
          refine X_iload_n dX12_body_47 rfl ?_
          refine X_imulN dX12_body_48 (((hc11.2 c12).2 c13).2.2.1 c14).1 (((hc11.2 c12).2 c13).2.2.1 c14).2.1 ?_
          refine X_iload_n dX12_body_49 rfl ?_
          refine X_iaddN dX12_body_50 (((hc11.2 c12).2 c13).2.2.1 c14).2.2.1 (((hc11.2 c12).2 c13).2.2.1 c14).2.2.2.1 ?_
          refine X_istore dX12_body_51 (by decide) rfl ?_
          refine X_iload_n dX12_body_53 rfl ?_
          refine X_iconst dX12_body_54 (by decide) ?_
          refine X_icmp_ne dX12_body_55 (tgt := 73) rfl (fun c15 => ?_) (fun c15 => ?_)
          · refine X_aload_n dX12_body_73 rfl ?_
            refine X_getfield (ci := 12) (k := 22) (v := vr (a 22)) dX12_body_74 rfl (by decide) kf_RX12_53 (congrArg vr (MR.ar mr10 (k := 22) (by decide)).1) mr10.1 ?_
            refine X_iconst dX12_body_77 (by decide) ?_
            refine X_bipush dX12_body_78 (by decide) (by decide) ?_
            refine X_iload dX12_body_80 rfl ?_
            refine X_imulN dX12_body_82 ((((hc11.2 c12).2 c13).2.2.1 c14).2.2.2.2.1 c15).1 ((((hc11.2 c12).2 c13).2.2.1 c14).2.2.2.2.1 c15).2.1 ?_
            refine X_iload_n dX12_body_83 rfl ?_
            refine X_iaddN dX12_body_84 ((((hc11.2 c12).2 c13).2.2.1 c14).2.2.2.2.1 c15).2.2.1 ((((hc11.2 c12).2 c13).2.2.1 c14).2.2.2.2.1 c15).2.2.2.1 ?_
            refine X_imulN dX12_body_85 ((((hc11.2 c12).2 c13).2.2.1 c14).2.2.2.2.1 c15).2.2.2.2.1 ((((hc11.2 c12).2 c13).2.2.1 c14).2.2.2.2.1 c15).2.2.2.2.2.1 ?_
            refine X_iload dX12_body_86 rfl ?_
            refine X_iaddN dX12_body_88 ((((hc11.2 c12).2 c13).2.2.1 c14).2.2.2.2.1 c15).2.2.2.2.2.2.1 ((((hc11.2 c12).2 c13).2.2.1 c14).2.2.2.2.1 c15).2.2.2.2.2.2.2.1 ?_
            refine X_iaload dX12_body_89 ((MR.ar mr10 (k := 22) (by decide)).2.1.trans (by decide)) ((((hc11.2 c12).2 c13).2.2.1 c14).2.2.2.2.1 c15).2.2.2.2.2.2.2.2.1 (lt_eq ((((hc11.2 c12).2 c13).2.2.1 c14).2.2.2.2.1 c15).2.2.2.2.2.2.2.2.2.1 (MR.ln mr10 (k := 22) (by decide) (by decide))) ?_
            refine X_top (v := vi (M10 22 ((4 * ((24 * ((12 * x1) + x2)) + x3)) + x4))) (congrArg vi (MR.el mr10 (k := 22) (by decide) rfl)) ?_
            refine X_iconst dX12_body_90 (by decide) ?_
            refine X_icmp_eq dX12_body_91 (tgt := 98) rfl (fun c16 => ?_) (fun c16 => ?_)
            · refine X_iconst dX12_body_98 (by decide) ?_
              exact X_ret (z := 0) dX12_body_99 rfl (fun hv => vok_h hv) ⟨rfl, _, (((((hc11.2 c12).2 c13).2.2.1 c14).2.2.2.2.1 c15).2.2.2.2.2.2.2.2.2.2.1 c16), mr10, mf10⟩
            · refine X_iconst dX12_body_94 (by decide) ?_
              refine X_goto dX12_body_95 (tgt := 99) rfl ?_
              exact X_ret (z := 1) dX12_body_99 rfl (fun hv => vok_h hv) ⟨rfl, _, (((((hc11.2 c12).2 c13).2.2.1 c14).2.2.2.2.1 c15).2.2.2.2.2.2.2.2.2.2.2 c16), mr10, mf10⟩
          · refine X_aload_n dX12_body_58 rfl ?_
            refine X_getfield (ci := 12) (k := 19) (v := vr (a 19)) dX12_body_59 rfl (by decide) kf_RX12_44 (congrArg vr (MR.ar mr10 (k := 19) (by decide)).1) mr10.1 ?_
            refine X_iconst dX12_body_62 (by decide) ?_
            refine X_iload dX12_body_63 rfl ?_
            refine X_imulN dX12_body_65 ((((hc11.2 c12).2 c13).2.2.1 c14).2.2.2.2.2 c15).1 ((((hc11.2 c12).2 c13).2.2.1 c14).2.2.2.2.2 c15).2.1 ?_
            refine X_iload dX12_body_66 rfl ?_
            refine X_iaddN dX12_body_68 ((((hc11.2 c12).2 c13).2.2.1 c14).2.2.2.2.2 c15).2.2.1 ((((hc11.2 c12).2 c13).2.2.1 c14).2.2.2.2.2 c15).2.2.2.1 ?_
            refine X_iaload dX12_body_69 ((MR.ar mr10 (k := 19) (by decide)).2.1.trans (by decide)) ((((hc11.2 c12).2 c13).2.2.1 c14).2.2.2.2.2 c15).2.2.2.2.1 (lt_eq ((((hc11.2 c12).2 c13).2.2.1 c14).2.2.2.2.2 c15).2.2.2.2.2.1 (MR.ln mr10 (k := 19) (by decide) (by decide))) ?_
            refine X_top (v := vi (M10 19 ((4 * ((12 * x1) + x2)) + x4))) (congrArg vi (MR.el mr10 (k := 19) (by decide) rfl)) ?_
            refine X_goto dX12_body_70 (tgt := 90) rfl ?_
            refine X_iconst dX12_body_90 (by decide) ?_
            refine X_icmp_eq dX12_body_91 (tgt := 98) rfl (fun c17 => ?_) (fun c17 => ?_)
            · refine X_iconst dX12_body_98 (by decide) ?_
              exact X_ret (z := 0) dX12_body_99 rfl (fun hv => vok_h hv) ⟨rfl, _, (((((hc11.2 c12).2 c13).2.2.1 c14).2.2.2.2.2 c15).2.2.2.2.2.2.1 c17), mr10, mf10⟩
            · refine X_iconst dX12_body_94 (by decide) ?_
              refine X_goto dX12_body_95 (tgt := 99) rfl ?_
              exact X_ret (z := 1) dX12_body_99 rfl (fun hv => vok_h hv) ⟨rfl, _, (((((hc11.2 c12).2 c13).2.2.1 c14).2.2.2.2.2 c15).2.2.2.2.2.2.2 c17), mr10, mf10⟩
        · refine X_iconst dX12_body_43 (by decide) ?_
          exact X_ret (z := (-1)) dX12_body_44 rfl (fun hv => vok_h hv) ⟨rfl, _, (((hc11.2 c12).2 c13).2.2.2 c14), mr10, mf10⟩
def B_use__0 (rc : MP) (cl : MC) (Q : Int → Mem → Prop) (d : Nat) (x1 x2 : Int) (M : Mem) : Prop := cl n_isEnum_0 [x1, x2] M (fun z1 M1 => (z1 = 0 → Q (-1) M1) ∧ (¬ (z1 = 0) → cl n_uses_0 [x1, x2] M1 (fun z4 M4 => Q z4 M4)))
set_option maxRecDepth 10000 in
theorem s_use__0 {l : Launch} {G : GT} {m : Int} {a : Int → Int} {d mc ms : Nat} {S : Sh} {Q : Int → Mem → Prop} {rc : MP} {cl : MC} {V0 V M : Mem} {x1 x2 : Int} (hrc : RCok l G m a S V0 Q d mc ms rc) (hcl : CLok l G m a S d cl) (mr : MR m a S V M) (mf : MF m a V0 V) (hB : B_use__0 rc cl Q d x1 x2 M) : XJ l G bX12_use_ (Qm m a S V0 Q) (d + 1) 0 [vr m, vi x1, vi x2] [] S V mc ms := by
  unfold B_use__0 at hB
  refine X_aload_n dX12_use__0 rfl ?_
  refine X_iload_n dX12_use__1 rfl ?_
  refine X_iload_n dX12_use__2 rfl ?_
  refine X_invV (ci := 12) (as := [vi x1, vi x2]) (st := []) okX12_isEnum dX12_use__3 km_RX12_439 rfl rfl (Nat.le_of_ble_eq_true rfl) rfl rfl mr.1 (CT.of d 0 0 (hcl n_isEnum_0 rfl [x1, x2] _ _ _ hB mr) (Nat.le_refl _) (Nat.zero_le _) (Nat.zero_le _) (fun z1 S1 V1 hq1 => ?_))
  obtain ⟨rfl, M1, hc2, mr1, hf1⟩ := hq1
  have mf1 := MF.trans mf hf1
  refine X_if_eq dX12_use__6 (tgt := 18) rfl (fun c3 => ?_) (fun c3 => ?_)
  · refine X_iconst dX12_use__18 (by decide) ?_
    exact X_ret (z := (-1)) dX12_use__19 rfl (fun hv => vok_h hv) ⟨rfl, _, (hc2.1 c3), mr1, mf1⟩
  · refine X_aload_n dX12_use__9 rfl ?_
    refine X_iload_n dX12_use__10 rfl ?_
    refine X_iload_n dX12_use__11 rfl ?_
    refine X_invV (ci := 12) (as := [vi x1, vi x2]) (st := []) okX12_uses dX12_use__12 km_RX12_455 rfl rfl (Nat.le_of_ble_eq_true rfl) rfl rfl mr1.1 (CT.of d 0 0 (hcl n_uses_0 rfl [x1, x2] _ _ _ (hc2.2 c3) mr1) (Nat.le_refl _) (Nat.zero_le _) (Nat.zero_le _) (fun z4 S4 V4 hq4 => ?_))
    obtain ⟨rfl, M4, hc5, mr4, hf4⟩ := hq4
    have mf4 := MF.trans mf1 hf4
    refine X_goto dX12_use__15 (tgt := 19) rfl ?_
    exact X_ret (z := z4) dX12_use__19 rfl (fun hv => vok_h hv) ⟨rfl, _, hc5, mr4, mf4⟩
def B_argument_0 (rc : MP) (cl : MC) (Q : Int → Mem → Prop) (d : Nat) (x1 x2 x3 : Int) (M : Mem) : Prop := cl n_isConstant_0 [x1, x2, x3] M (fun z1 M1 => (z1 ≠ 0 → cl n_uses_0 [x1, x2] M1 (fun z4 M4 => -2147483648 ≤ 12 * x1 ∧ 12 * x1 ≤ 2147483647 ∧ -2147483648 ≤ (12 * x1) + x2 ∧ (12 * x1) + x2 ≤ 2147483647 ∧ -2147483648 ≤ 24 * ((12 * x1) + x2) ∧ 24 * ((12 * x1) + x2) ≤ 2147483647 ∧ -2147483648 ≤ (24 * ((12 * x1) + x2)) + x3 ∧ (24 * ((12 * x1) + x2)) + x3 ≤ 2147483647 ∧ 0 ≤ ((24 * ((12 * x1) + x2)) + x3) ∧ ((24 * ((12 * x1) + x2)) + x3) < 2880 ∧ cl n_ends_0 [M4 54 ((24 * ((12 * x1) + x2)) + x3)] M4 (fun z6 M6 => Q z6 M6))) ∧ (¬ (z1 ≠ 0) → Q (-1) M1))
set_option maxRecDepth 10000 in
theorem s_argument_0 {l : Launch} {G : GT} {m : Int} {a : Int → Int} {d mc ms : Nat} {S : Sh} {Q : Int → Mem → Prop} {rc : MP} {cl : MC} {V0 V M : Mem} {x1 x2 x3 : Int} (hrc : RCok l G m a S V0 Q d mc ms rc) (hcl : CLok l G m a S d cl) (mr : MR m a S V M) (mf : MF m a V0 V) (hB : B_argument_0 rc cl Q d x1 x2 x3 M) : XJ l G bX12_argument (Qm m a S V0 Q) (d + 1) 0 [vr m, vi x1, vi x2, vi x3, vu] [] S V mc ms := by
  unfold B_argument_0 at hB
  refine X_aload_n dX12_argument_0 rfl ?_
  refine X_iload_n dX12_argument_1 rfl ?_
  refine X_iload_n dX12_argument_2 rfl ?_
  refine X_iload_n dX12_argument_3 rfl ?_
  refine X_invV (ci := 12) (as := [vi x1, vi x2, vi x3]) (st := []) okX12_isConstant dX12_argument_4 km_RX12_451 rfl rfl (Nat.le_of_ble_eq_true rfl) rfl rfl mr.1 (CT.of d 0 0 (hcl n_isConstant_0 rfl [x1, x2, x3] _ _ _ hB mr) (Nat.le_refl _) (Nat.zero_le _) (Nat.zero_le _) (fun z1 S1 V1 hq1 => ?_))
  obtain ⟨rfl, M1, hc2, mr1, hf1⟩ := hq1
  have mf1 := MF.trans mf hf1
  refine X_if_ne dX12_argument_7 (tgt := 12) rfl (fun c3 => ?_) (fun c3 => ?_)
  · refine X_aload_n dX12_argument_12 rfl ?_
    refine X_iload_n dX12_argument_13 rfl ?_
    refine X_iload_n dX12_argument_14 rfl ?_
    refine X_invV (ci := 12) (as := [vi x1, vi x2]) (st := []) okX12_uses dX12_argument_15 km_RX12_455 rfl rfl (Nat.le_of_ble_eq_true rfl) rfl rfl mr1.1 (CT.of d 0 0 (hcl n_uses_0 rfl [x1, x2] _ _ _ (hc2.1 c3) mr1) (Nat.le_refl _) (Nat.zero_le _) (Nat.zero_le _) (fun z4 S4 V4 hq4 => ?_))
    obtain ⟨rfl, M4, hc5, mr4, hf4⟩ := hq4
    have mf4 := MF.trans mf1 hf4
    refine X_istore dX12_argument_18 (by decide) rfl ?_
    refine X_aload_n dX12_argument_20 rfl ?_
    refine X_aload_n dX12_argument_21 rfl ?_
    refine X_getfield (ci := 12) (k := 54) (v := vr (a 54)) dX12_argument_22 rfl (by decide) kf_RX12_122 (congrArg vr (MR.ar mr4 (k := 54) (by decide)).1) mr4.1 ?_
    refine X_bipush dX12_argument_25 (by decide) (by decide) ?_
    refine X_bipush dX12_argument_27 (by decide) (by decide) ?_
    refine X_iload_n dX12_argument_29 rfl ?_
    refine X_imulN dX12_argument_30 hc5.1 hc5.2.1 ?_
    refine X_iload_n dX12_argument_31 rfl ?_
    refine X_iaddN dX12_argument_32 hc5.2.2.1 hc5.2.2.2.1 ?_
    refine X_imulN dX12_argument_33 hc5.2.2.2.2.1 hc5.2.2.2.2.2.1 ?_
    refine X_iload_n dX12_argument_34 rfl ?_
    refine X_iaddN dX12_argument_35 hc5.2.2.2.2.2.2.1 hc5.2.2.2.2.2.2.2.1 ?_
    refine X_iaload dX12_argument_36 ((MR.ar mr4 (k := 54) (by decide)).2.1.trans (by decide)) hc5.2.2.2.2.2.2.2.2.1 (lt_eq hc5.2.2.2.2.2.2.2.2.2.1 (MR.ln mr4 (k := 54) (by decide) (by decide))) ?_
    refine X_top (v := vi (M4 54 ((24 * ((12 * x1) + x2)) + x3))) (congrArg vi (MR.el mr4 (k := 54) (by decide) rfl)) ?_
    refine X_invV (ci := 12) (as := [vi (M4 54 ((24 * ((12 * x1) + x2)) + x3))]) (st := []) okX12_ends dX12_argument_37 km_RX12_458 rfl rfl (Nat.le_of_ble_eq_true rfl) rfl rfl mr4.1 (CT.of d 0 0 (hcl n_ends_0 rfl [M4 54 ((24 * ((12 * x1) + x2)) + x3)] _ _ _ hc5.2.2.2.2.2.2.2.2.2.2 mr4) (Nat.le_refl _) (Nat.zero_le _) (Nat.zero_le _) (fun z6 S6 V6 hq6 => ?_))
    obtain ⟨rfl, M6, hc7, mr6, hf6⟩ := hq6
    have mf6 := MF.trans mf4 hf6
    exact X_ret (z := z6) dX12_argument_40 rfl (fun hv => vok_h hv) ⟨rfl, _, hc7, mr6, mf6⟩
  · refine X_iconst dX12_argument_10 (by decide) ?_
    exact X_ret (z := (-1)) dX12_argument_11 rfl (fun hv => vok_h hv) ⟨rfl, _, (hc2.2 c3), mr1, mf1⟩
def B_act_0 (rc : MP) (cl : MC) (Q : Int → Mem → Prop) (d : Nat) (x1 x2 x3 x4 : Int) (M : Mem) : Prop := cl n_isConstant_0 [x1, x2, x3] M (fun z1 M1 => (z1 = 0 → Q (-1) M1) ∧ (¬ (z1 = 0) → (x4 < 0 → Q (-1) M1) ∧ (¬ (x4 < 0) → 0 ≤ x1 ∧ x1 < 10 ∧ (x4 < (M1 11 x1) → -2147483648 ≤ 12 * x1 ∧ 12 * x1 ≤ 2147483647 ∧ -2147483648 ≤ (12 * x1) + x2 ∧ (12 * x1) + x2 ≤ 2147483647 ∧ -2147483648 ≤ 24 * ((12 * x1) + x2) ∧ 24 * ((12 * x1) + x2) ≤ 2147483647 ∧ -2147483648 ≤ (24 * ((12 * x1) + x2)) + x3 ∧ (24 * ((12 * x1) + x2)) + x3 ≤ 2147483647 ∧ cl n_uses_0 [x1, x2] M1 (fun z6 M6 => (z6 ≠ (-3) → -2147483648 ≤ 4 * ((24 * ((12 * x1) + x2)) + x3) ∧ 4 * ((24 * ((12 * x1) + x2)) + x3) ≤ 2147483647 ∧ -2147483648 ≤ (4 * ((24 * ((12 * x1) + x2)) + x3)) + x4 ∧ (4 * ((24 * ((12 * x1) + x2)) + x3)) + x4 ≤ 2147483647 ∧ 0 ≤ ((4 * ((24 * ((12 * x1) + x2)) + x3)) + x4) ∧ ((4 * ((24 * ((12 * x1) + x2)) + x3)) + x4) < 11520 ∧ ((M6 22 ((4 * ((24 * ((12 * x1) + x2)) + x3)) + x4)) = (-1) → -2147483648 ≤ 12 * x1 ∧ 12 * x1 ≤ 2147483647 ∧ -2147483648 ≤ (12 * x1) + x2 ∧ (12 * x1) + x2 ≤ 2147483647 ∧ -2147483648 ≤ 4 * ((12 * x1) + x2) ∧ 4 * ((12 * x1) + x2) ≤ 2147483647 ∧ -2147483648 ≤ (4 * ((12 * x1) + x2)) + x4 ∧ (4 * ((12 * x1) + x2)) + x4 ≤ 2147483647 ∧ 0 ≤ ((4 * ((12 * x1) + x2)) + x4) ∧ ((4 * ((12 * x1) + x2)) + x4) < 480 ∧ ((M6 19 ((4 * ((12 * x1) + x2)) + x4)) ≠ (-1) → cl n_value_0 [M6 19 ((4 * ((12 * x1) + x2)) + x4), (24 * ((12 * x1) + x2)) + x3, x4] M6 (fun z11 M11 => cl n_ends_0 [z11] M11 (fun z13 M13 => Q z13 M13))) ∧ (¬ ((M6 19 ((4 * ((12 * x1) + x2)) + x4)) ≠ (-1)) → cl n_failing_0 [5, (-1)] M6 (fun z15 M15 => cl n_ends_0 [z15] M15 (fun z17 M17 => Q z17 M17)))) ∧ (¬ ((M6 22 ((4 * ((24 * ((12 * x1) + x2)) + x3)) + x4)) = (-1)) → ((M6 22 ((4 * ((24 * ((12 * x1) + x2)) + x3)) + x4)) ≠ (-1) → cl n_value_0 [M6 22 ((4 * ((24 * ((12 * x1) + x2)) + x3)) + x4), (24 * ((12 * x1) + x2)) + x3, x4] M6 (fun z20 M20 => cl n_ends_0 [z20] M20 (fun z22 M22 => Q z22 M22))) ∧ (¬ ((M6 22 ((4 * ((24 * ((12 * x1) + x2)) + x3)) + x4)) ≠ (-1)) → cl n_failing_0 [5, (-1)] M6 (fun z24 M24 => cl n_ends_0 [z24] M24 (fun z26 M26 => Q z26 M26))))) ∧ (¬ (z6 ≠ (-3)) → Q (-3) M6))) ∧ (¬ (x4 < (M1 11 x1)) → Q (-1) M1))))
set_option maxRecDepth 10000 in
theorem s_act_0 {l : Launch} {G : GT} {m : Int} {a : Int → Int} {d mc ms : Nat} {S : Sh} {Q : Int → Mem → Prop} {rc : MP} {cl : MC} {V0 V M : Mem} {x1 x2 x3 x4 : Int} (hrc : RCok l G m a S V0 Q d mc ms rc) (hcl : CLok l G m a S d cl) (mr : MR m a S V M) (mf : MF m a V0 V) (hB : B_act_0 rc cl Q d x1 x2 x3 x4 M) : XJ l G bX12_act (Qm m a S V0 Q) (d + 1) 0 [vr m, vi x1, vi x2, vi x3, vi x4, vu, vu, vu] [] S V mc ms := by
  unfold B_act_0 at hB
  refine X_aload_n dX12_act_0 rfl ?_
  refine X_iload_n dX12_act_1 rfl ?_
  refine X_iload_n dX12_act_2 rfl ?_
  refine X_iload_n dX12_act_3 rfl ?_
  refine X_invV (ci := 12) (as := [vi x1, vi x2, vi x3]) (st := []) okX12_isConstant dX12_act_4 km_RX12_451 rfl rfl (Nat.le_of_ble_eq_true rfl) rfl rfl mr.1 (CT.of d 0 0 (hcl n_isConstant_0 rfl [x1, x2, x3] _ _ _ hB mr) (Nat.le_refl _) (Nat.zero_le _) (Nat.zero_le _) (fun z1 S1 V1 hq1 => ?_))
  obtain ⟨rfl, M1, hc2, mr1, hf1⟩ := hq1
  have mf1 := MF.trans mf hf1
  refine X_if_eq dX12_act_7 (tgt := 26) rfl (fun c3 => ?_) (fun c3 => ?_)
  · refine X_iconst dX12_act_26 (by decide) ?_
    exact X_ret (z := (-1)) dX12_act_27 rfl (fun hv => vok_h hv) ⟨rfl, _, (hc2.1 c3), mr1, mf1⟩
  · refine X_iload dX12_act_10 rfl ?_
    refine X_if_lt dX12_act_12 (tgt := 26) rfl (fun c4 => ?_) (fun c4 => ?_)
    · refine X_iconst dX12_act_26 (by decide) ?_
      exact X_ret (z := (-1)) dX12_act_27 rfl (fun hv => vok_h hv) ⟨rfl, _, ((hc2.2 c3).1 c4), mr1, mf1⟩
    · refine X_iload dX12_act_15 rfl ?_
      refine X_aload_n dX12_act_17 rfl ?_
      refine X_getfield (ci := 12) (k := 11) (v := vr (a 11)) dX12_act_18 rfl (by decide) kf_RX12_20 (congrArg vr (MR.ar mr1 (k := 11) (by decide)).1) mr1.1 ?_
      refine X_iload_n dX12_act_21 rfl ?_
      refine X_iaload dX12_act_22 ((MR.ar mr1 (k := 11) (by decide)).2.1.trans (by decide)) ((hc2.2 c3).2 c4).1 (lt_eq ((hc2.2 c3).2 c4).2.1 (MR.ln mr1 (k := 11) (by decide) (by decide))) ?_
      refine X_top (v := vi (M1 11 x1)) (congrArg vi (MR.el mr1 (k := 11) (by decide) rfl)) ?_
      refine X_icmp_lt dX12_act_23 (tgt := 28) rfl (fun c5 => ?_) (fun c5 => ?_)
      · refine X_bipush dX12_act_28 (by decide) (by decide) ?_
        refine X_bipush dX12_act_30 (by decide) (by decide) ?_
        refine X_iload_n dX12_act_32 rfl ?_
        refine X_imulN dX12_act_33 (((hc2.2 c3).2 c4).2.2.1 c5).1 (((hc2.2 c3).2 c4).2.2.1 c5).2.1 ?_
        refine X_iload_n dX12_act_34 rfl ?_
        refine X_iaddN dX12_act_35 (((hc2.2 c3).2 c4).2.2.1 c5).2.2.1 (((hc2.2 c3).2 c4).2.2.1 c5).2.2.2.1 ?_
        refine X_imulN dX12_act_36 (((hc2.2 c3).2 c4).2.2.1 c5).2.2.2.2.1 (((hc2.2 c3).2 c4).2.2.1 c5).2.2.2.2.2.1 ?_
        refine X_iload_n dX12_act_37 rfl ?_
        refine X_iaddN dX12_act_38 (((hc2.2 c3).2 c4).2.2.1 c5).2.2.2.2.2.2.1 (((hc2.2 c3).2 c4).2.2.1 c5).2.2.2.2.2.2.2.1 ?_
        refine X_istore dX12_act_39 (by decide) rfl ?_
        refine X_aload_n dX12_act_41 rfl ?_
        refine X_iload_n dX12_act_42 rfl ?_
        refine X_iload_n dX12_act_43 rfl ?_
        refine X_invV (ci := 12) (as := [vi x1, vi x2]) (st := []) okX12_uses dX12_act_44 km_RX12_455 rfl rfl (Nat.le_of_ble_eq_true rfl) rfl rfl mr1.1 (CT.of d 0 0 (hcl n_uses_0 rfl [x1, x2] _ _ _ (((hc2.2 c3).2 c4).2.2.1 c5).2.2.2.2.2.2.2.2 mr1) (Nat.le_refl _) (Nat.zero_le _) (Nat.zero_le _) (fun z6 S6 V6 hq6 => ?_))
        obtain ⟨rfl, M6, hc7, mr6, hf6⟩ := hq6
        have mf6 := MF.trans mf1 hf6
        refine X_bipush dX12_act_47 (by decide) (by decide) ?_
        refine X_icmp_ne dX12_act_49 (tgt := 55) rfl (fun c8 => ?_) (fun c8 => ?_)
        · refine X_aload_n dX12_act_55 rfl ?_
          refine X_getfield (ci := 12) (k := 22) (v := vr (a 22)) dX12_act_56 rfl (by decide) kf_RX12_53 (congrArg vr (MR.ar mr6 (k := 22) (by decide)).1) mr6.1 ?_
          refine X_iconst dX12_act_59 (by decide) ?_
          refine X_iload dX12_act_60 rfl ?_
          refine X_imulN dX12_act_62 (hc7.1 c8).1 (hc7.1 c8).2.1 ?_
          refine X_iload dX12_act_63 rfl ?_
          refine X_iaddN dX12_act_65 (hc7.1 c8).2.2.1 (hc7.1 c8).2.2.2.1 ?_
          refine X_iaload dX12_act_66 ((MR.ar mr6 (k := 22) (by decide)).2.1.trans (by decide)) (hc7.1 c8).2.2.2.2.1 (lt_eq (hc7.1 c8).2.2.2.2.2.1 (MR.ln mr6 (k := 22) (by decide) (by decide))) ?_
          refine X_top (v := vi (M6 22 ((4 * ((24 * ((12 * x1) + x2)) + x3)) + x4))) (congrArg vi (MR.el mr6 (k := 22) (by decide) rfl)) ?_
          refine X_iconst dX12_act_67 (by decide) ?_
          refine X_icmp_eq dX12_act_68 (tgt := 86) rfl (fun c9 => ?_) (fun c9 => ?_)
          · refine X_aload_n dX12_act_86 rfl ?_
            refine X_getfield (ci := 12) (k := 19) (v := vr (a 19)) dX12_act_87 rfl (by decide) kf_RX12_44 (congrArg vr (MR.ar mr6 (k := 19) (by decide)).1) mr6.1 ?_
            refine X_iconst dX12_act_90 (by decide) ?_
            refine X_bipush dX12_act_91 (by decide) (by decide) ?_
            refine X_iload_n dX12_act_93 rfl ?_
            refine X_imulN dX12_act_94 ((hc7.1 c8).2.2.2.2.2.2.1 c9).1 ((hc7.1 c8).2.2.2.2.2.2.1 c9).2.1 ?_
            refine X_iload_n dX12_act_95 rfl ?_
            refine X_iaddN dX12_act_96 ((hc7.1 c8).2.2.2.2.2.2.1 c9).2.2.1 ((hc7.1 c8).2.2.2.2.2.2.1 c9).2.2.2.1 ?_
            refine X_imulN dX12_act_97 ((hc7.1 c8).2.2.2.2.2.2.1 c9).2.2.2.2.1 ((hc7.1 c8).2.2.2.2.2.2.1 c9).2.2.2.2.2.1 ?_
            refine X_iload dX12_act_98 rfl ?_
            refine X_iaddN dX12_act_100 ((hc7.1 c8).2.2.2.2.2.2.1 c9).2.2.2.2.2.2.1 ((hc7.1 c8).2.2.2.2.2.2.1 c9).2.2.2.2.2.2.2.1 ?_
            refine X_iaload dX12_act_101 ((MR.ar mr6 (k := 19) (by decide)).2.1.trans (by decide)) ((hc7.1 c8).2.2.2.2.2.2.1 c9).2.2.2.2.2.2.2.2.1 (lt_eq ((hc7.1 c8).2.2.2.2.2.2.1 c9).2.2.2.2.2.2.2.2.2.1 (MR.ln mr6 (k := 19) (by decide) (by decide))) ?_
            refine X_top (v := vi (M6 19 ((4 * ((12 * x1) + x2)) + x4))) (congrArg vi (MR.el mr6 (k := 19) (by decide) rfl)) ?_
            refine X_istore dX12_act_102 (by decide) rfl ?_
            refine X_iload dX12_act_104 rfl ?_
            refine X_iconst dX12_act_106 (by decide) ?_
            refine X_icmp_ne dX12_act_107 (tgt := 119) rfl (fun c10 => ?_) (fun c10 => ?_)
            · refine X_aload_n dX12_act_119 rfl ?_
              refine X_iload dX12_act_120 rfl ?_
              refine X_iload dX12_act_122 rfl ?_
              refine X_iload dX12_act_124 rfl ?_
              refine X_invV (ci := 12) (as := [vi (M6 19 ((4 * ((12 * x1) + x2)) + x4)), vi ((24 * ((12 * x1) + x2)) + x3), vi x4]) (st := []) okX12_value dX12_act_126 km_RX12_422 rfl rfl (Nat.le_of_ble_eq_true rfl) rfl rfl mr6.1 (CT.of d 0 0 (hcl n_value_0 rfl [M6 19 ((4 * ((12 * x1) + x2)) + x4), (24 * ((12 * x1) + x2)) + x3, x4] _ _ _ (((hc7.1 c8).2.2.2.2.2.2.1 c9).2.2.2.2.2.2.2.2.2.2.1 c10) mr6) (Nat.le_refl _) (Nat.zero_le _) (Nat.zero_le _) (fun z11 S11 V11 hq11 => ?_))
              obtain ⟨rfl, M11, hc12, mr11, hf11⟩ := hq11
              have mf11 := MF.trans mf6 hf11
              refine X_istore dX12_act_129 (by decide) rfl ?_
              refine X_aload_n dX12_act_131 rfl ?_
              refine X_iload dX12_act_132 rfl ?_
              refine X_invV (ci := 12) (as := [vi z11]) (st := []) okX12_ends dX12_act_134 km_RX12_458 rfl rfl (Nat.le_of_ble_eq_true rfl) rfl rfl mr11.1 (CT.of d 0 0 (hcl n_ends_0 rfl [z11] _ _ _ hc12 mr11) (Nat.le_refl _) (Nat.zero_le _) (Nat.zero_le _) (fun z13 S13 V13 hq13 => ?_))
              obtain ⟨rfl, M13, hc14, mr13, hf13⟩ := hq13
              have mf13 := MF.trans mf11 hf13
              exact X_ret (z := z13) dX12_act_137 rfl (fun hv => vok_h hv) ⟨rfl, _, hc14, mr13, mf13⟩
            · refine X_aload_n dX12_act_110 rfl ?_
              refine X_iconst dX12_act_111 (by decide) ?_
              refine X_iconst dX12_act_112 (by decide) ?_
              refine X_invV (ci := 12) (as := [vi 5, vi (-1)]) (st := []) okX12_failing dX12_act_113 km_RX12_407 rfl rfl (Nat.le_of_ble_eq_true rfl) rfl rfl mr6.1 (CT.of d 0 0 (hcl n_failing_0 rfl [5, (-1)] _ _ _ (((hc7.1 c8).2.2.2.2.2.2.1 c9).2.2.2.2.2.2.2.2.2.2.2 c10) mr6) (Nat.le_refl _) (Nat.zero_le _) (Nat.zero_le _) (fun z15 S15 V15 hq15 => ?_))
              obtain ⟨rfl, M15, hc16, mr15, hf15⟩ := hq15
              have mf15 := MF.trans mf6 hf15
              refine X_goto dX12_act_116 (tgt := 129) rfl ?_
              refine X_istore dX12_act_129 (by decide) rfl ?_
              refine X_aload_n dX12_act_131 rfl ?_
              refine X_iload dX12_act_132 rfl ?_
              refine X_invV (ci := 12) (as := [vi z15]) (st := []) okX12_ends dX12_act_134 km_RX12_458 rfl rfl (Nat.le_of_ble_eq_true rfl) rfl rfl mr15.1 (CT.of d 0 0 (hcl n_ends_0 rfl [z15] _ _ _ hc16 mr15) (Nat.le_refl _) (Nat.zero_le _) (Nat.zero_le _) (fun z17 S17 V17 hq17 => ?_))
              obtain ⟨rfl, M17, hc18, mr17, hf17⟩ := hq17
              have mf17 := MF.trans mf15 hf17
              exact X_ret (z := z17) dX12_act_137 rfl (fun hv => vok_h hv) ⟨rfl, _, hc18, mr17, mf17⟩
          · refine X_aload_n dX12_act_71 rfl ?_
            refine X_getfield (ci := 12) (k := 22) (v := vr (a 22)) dX12_act_72 rfl (by decide) kf_RX12_53 (congrArg vr (MR.ar mr6 (k := 22) (by decide)).1) mr6.1 ?_
            refine X_iconst dX12_act_75 (by decide) ?_
            refine X_iload dX12_act_76 rfl ?_
            refine X_imulN dX12_act_78 (hc7.1 c8).1 (hc7.1 c8).2.1 ?_
            refine X_iload dX12_act_79 rfl ?_
            refine X_iaddN dX12_act_81 (hc7.1 c8).2.2.1 (hc7.1 c8).2.2.2.1 ?_
            refine X_iaload dX12_act_82 ((MR.ar mr6 (k := 22) (by decide)).2.1.trans (by decide)) (hc7.1 c8).2.2.2.2.1 (lt_eq (hc7.1 c8).2.2.2.2.2.1 (MR.ln mr6 (k := 22) (by decide) (by decide))) ?_
            refine X_top (v := vi (M6 22 ((4 * ((24 * ((12 * x1) + x2)) + x3)) + x4))) (congrArg vi (MR.el mr6 (k := 22) (by decide) rfl)) ?_
            refine X_goto dX12_act_83 (tgt := 102) rfl ?_
            refine X_istore dX12_act_102 (by decide) rfl ?_
            refine X_iload dX12_act_104 rfl ?_
            refine X_iconst dX12_act_106 (by decide) ?_
            refine X_icmp_ne dX12_act_107 (tgt := 119) rfl (fun c19 => ?_) (fun c19 => ?_)
            · refine X_aload_n dX12_act_119 rfl ?_
              refine X_iload dX12_act_120 rfl ?_
              refine X_iload dX12_act_122 rfl ?_
              refine X_iload dX12_act_124 rfl ?_
              refine X_invV (ci := 12) (as := [vi (M6 22 ((4 * ((24 * ((12 * x1) + x2)) + x3)) + x4)), vi ((24 * ((12 * x1) + x2)) + x3), vi x4]) (st := []) okX12_value dX12_act_126 km_RX12_422 rfl rfl (Nat.le_of_ble_eq_true rfl) rfl rfl mr6.1 (CT.of d 0 0 (hcl n_value_0 rfl [M6 22 ((4 * ((24 * ((12 * x1) + x2)) + x3)) + x4), (24 * ((12 * x1) + x2)) + x3, x4] _ _ _ (((hc7.1 c8).2.2.2.2.2.2.2 c9).1 c19) mr6) (Nat.le_refl _) (Nat.zero_le _) (Nat.zero_le _) (fun z20 S20 V20 hq20 => ?_))
              obtain ⟨rfl, M20, hc21, mr20, hf20⟩ := hq20
              have mf20 := MF.trans mf6 hf20
              refine X_istore dX12_act_129 (by decide) rfl ?_
              refine X_aload_n dX12_act_131 rfl ?_
              refine X_iload dX12_act_132 rfl ?_
              refine X_invV (ci := 12) (as := [vi z20]) (st := []) okX12_ends dX12_act_134 km_RX12_458 rfl rfl (Nat.le_of_ble_eq_true rfl) rfl rfl mr20.1 (CT.of d 0 0 (hcl n_ends_0 rfl [z20] _ _ _ hc21 mr20) (Nat.le_refl _) (Nat.zero_le _) (Nat.zero_le _) (fun z22 S22 V22 hq22 => ?_))
              obtain ⟨rfl, M22, hc23, mr22, hf22⟩ := hq22
              have mf22 := MF.trans mf20 hf22
              exact X_ret (z := z22) dX12_act_137 rfl (fun hv => vok_h hv) ⟨rfl, _, hc23, mr22, mf22⟩
            · refine X_aload_n dX12_act_110 rfl ?_
              refine X_iconst dX12_act_111 (by decide) ?_
              refine X_iconst dX12_act_112 (by decide) ?_
              refine X_invV (ci := 12) (as := [vi 5, vi (-1)]) (st := []) okX12_failing dX12_act_113 km_RX12_407 rfl rfl (Nat.le_of_ble_eq_true rfl) rfl rfl mr6.1 (CT.of d 0 0 (hcl n_failing_0 rfl [5, (-1)] _ _ _ (((hc7.1 c8).2.2.2.2.2.2.2 c9).2 c19) mr6) (Nat.le_refl _) (Nat.zero_le _) (Nat.zero_le _) (fun z24 S24 V24 hq24 => ?_))
              obtain ⟨rfl, M24, hc25, mr24, hf24⟩ := hq24
              have mf24 := MF.trans mf6 hf24
              refine X_goto dX12_act_116 (tgt := 129) rfl ?_
              refine X_istore dX12_act_129 (by decide) rfl ?_
              refine X_aload_n dX12_act_131 rfl ?_
              refine X_iload dX12_act_132 rfl ?_
              refine X_invV (ci := 12) (as := [vi z24]) (st := []) okX12_ends dX12_act_134 km_RX12_458 rfl rfl (Nat.le_of_ble_eq_true rfl) rfl rfl mr24.1 (CT.of d 0 0 (hcl n_ends_0 rfl [z24] _ _ _ hc25 mr24) (Nat.le_refl _) (Nat.zero_le _) (Nat.zero_le _) (fun z26 S26 V26 hq26 => ?_))
              obtain ⟨rfl, M26, hc27, mr26, hf26⟩ := hq26
              have mf26 := MF.trans mf24 hf26
              exact X_ret (z := z26) dX12_act_137 rfl (fun hv => vok_h hv) ⟨rfl, _, hc27, mr26, mf26⟩
        · refine X_bipush dX12_act_52 (by decide) (by decide) ?_
          exact X_ret (z := (-3)) dX12_act_54 rfl (fun hv => vok_h hv) ⟨rfl, _, (hc7.2 c8), mr6, mf6⟩
      · refine X_iconst dX12_act_26 (by decide) ?_
        exact X_ret (z := (-1)) dX12_act_27 rfl (fun hv => vok_h hv) ⟨rfl, _, (((hc2.2 c3).2 c4).2.2.2 c5), mr1, mf1⟩
def B_entry_0 (rc : MP) (cl : MC) (Q : Int → Mem → Prop) (d : Nat) (x1 x2 x3 x4 : Int) (M : Mem) : Prop := cl n_isEnum_0 [x1, x2] M (fun z1 M1 => (z1 = 0 → Q (-1) M1) ∧ (¬ (z1 = 0) → (x3 < 0 → Q (-1) M1) ∧ (¬ (x3 < 0) → -2147483648 ≤ 12 * x1 ∧ 12 * x1 ≤ 2147483647 ∧ -2147483648 ≤ (12 * x1) + x2 ∧ (12 * x1) + x2 ≤ 2147483647 ∧ 0 ≤ ((12 * x1) + x2) ∧ ((12 * x1) + x2) < 120 ∧ (x3 < (M1 15 ((12 * x1) + x2)) → -2147483648 ≤ 4 * ((12 * x1) + x2) ∧ 4 * ((12 * x1) + x2) ≤ 2147483647 ∧ -2147483648 ≤ (4 * ((12 * x1) + x2)) + x3 ∧ (4 * ((12 * x1) + x2)) + x3 ≤ 2147483647 ∧ (x4 < 0 → Q (-1) M1) ∧ (¬ (x4 < 0) → 0 ≤ ((4 * ((12 * x1) + x2)) + x3) ∧ ((4 * ((12 * x1) + x2)) + x3) < 480 ∧ (x4 < (M1 24 ((4 * ((12 * x1) + x2)) + x3)) → cl n_uses_0 [x1, x2] M1 (fun z8 M8 => -2147483648 ≤ 12 * ((4 * ((12 * x1) + x2)) + x3) ∧ 12 * ((4 * ((12 * x1) + x2)) + x3) ≤ 2147483647 ∧ -2147483648 ≤ (12 * ((4 * ((12 * x1) + x2)) + x3)) + x4 ∧ (12 * ((4 * ((12 * x1) + x2)) + x3)) + x4 ≤ 2147483647 ∧ 0 ≤ ((12 * ((4 * ((12 * x1) + x2)) + x3)) + x4) ∧ ((12 * ((4 * ((12 * x1) + x2)) + x3)) + x4) < 5760 ∧ cl n_ends_0 [M8 56 ((12 * ((4 * ((12 * x1) + x2)) + x3)) + x4)] M8 (fun z10 M10 => Q z10 M10))) ∧ (¬ (x4 < (M1 24 ((4 * ((12 * x1) + x2)) + x3))) → Q (-1) M1))) ∧ (¬ (x3 < (M1 15 ((12 * x1) + x2))) → Q (-1) M1))))
set_option maxRecDepth 10000 in
theorem s_entry_0 {l : Launch} {G : GT} {m : Int} {a : Int → Int} {d mc ms : Nat} {S : Sh} {Q : Int → Mem → Prop} {rc : MP} {cl : MC} {V0 V M : Mem} {x1 x2 x3 x4 : Int} (hrc : RCok l G m a S V0 Q d mc ms rc) (hcl : CLok l G m a S d cl) (mr : MR m a S V M) (mf : MF m a V0 V) (hB : B_entry_0 rc cl Q d x1 x2 x3 x4 M) : XJ l G bX12_entry (Qm m a S V0 Q) (d + 1) 0 [vr m, vi x1, vi x2, vi x3, vi x4, vu, vu] [] S V mc ms := by
  unfold B_entry_0 at hB
  refine X_aload_n dX12_entry_0 rfl ?_
  refine X_iload_n dX12_entry_1 rfl ?_
  refine X_iload_n dX12_entry_2 rfl ?_
  refine X_invV (ci := 12) (as := [vi x1, vi x2]) (st := []) okX12_isEnum dX12_entry_3 km_RX12_439 rfl rfl (Nat.le_of_ble_eq_true rfl) rfl rfl mr.1 (CT.of d 0 0 (hcl n_isEnum_0 rfl [x1, x2] _ _ _ hB mr) (Nat.le_refl _) (Nat.zero_le _) (Nat.zero_le _) (fun z1 S1 V1 hq1 => ?_))
  obtain ⟨rfl, M1, hc2, mr1, hf1⟩ := hq1
  have mf1 := MF.trans mf hf1
  refine X_if_eq dX12_entry_6 (tgt := 28) rfl (fun c3 => ?_) (fun c3 => ?_)
  · refine X_iconst dX12_entry_28 (by decide) ?_
    exact X_ret (z := (-1)) dX12_entry_29 rfl (fun hv => vok_h hv) ⟨rfl, _, (hc2.1 c3), mr1, mf1⟩
  · refine X_iload_n dX12_entry_9 rfl ?_
    refine X_if_lt dX12_entry_10 (tgt := 28) rfl (fun c4 => ?_) (fun c4 => ?_)
    · refine X_iconst dX12_entry_28 (by decide) ?_
      exact X_ret (z := (-1)) dX12_entry_29 rfl (fun hv => vok_h hv) ⟨rfl, _, ((hc2.2 c3).1 c4), mr1, mf1⟩
    · refine X_iload_n dX12_entry_13 rfl ?_
      refine X_aload_n dX12_entry_14 rfl ?_
      refine X_getfield (ci := 12) (k := 15) (v := vr (a 15)) dX12_entry_15 rfl (by decide) kf_RX12_32 (congrArg vr (MR.ar mr1 (k := 15) (by decide)).1) mr1.1 ?_
      refine X_bipush dX12_entry_18 (by decide) (by decide) ?_
      refine X_iload_n dX12_entry_20 rfl ?_
      refine X_imulN dX12_entry_21 ((hc2.2 c3).2 c4).1 ((hc2.2 c3).2 c4).2.1 ?_
      refine X_iload_n dX12_entry_22 rfl ?_
      refine X_iaddN dX12_entry_23 ((hc2.2 c3).2 c4).2.2.1 ((hc2.2 c3).2 c4).2.2.2.1 ?_
      refine X_iaload dX12_entry_24 ((MR.ar mr1 (k := 15) (by decide)).2.1.trans (by decide)) ((hc2.2 c3).2 c4).2.2.2.2.1 (lt_eq ((hc2.2 c3).2 c4).2.2.2.2.2.1 (MR.ln mr1 (k := 15) (by decide) (by decide))) ?_
      refine X_top (v := vi (M1 15 ((12 * x1) + x2))) (congrArg vi (MR.el mr1 (k := 15) (by decide) rfl)) ?_
      refine X_icmp_lt dX12_entry_25 (tgt := 30) rfl (fun c5 => ?_) (fun c5 => ?_)
      · refine X_iconst dX12_entry_30 (by decide) ?_
        refine X_bipush dX12_entry_31 (by decide) (by decide) ?_
        refine X_iload_n dX12_entry_33 rfl ?_
        refine X_imulN dX12_entry_34 ((hc2.2 c3).2 c4).1 ((hc2.2 c3).2 c4).2.1 ?_
        refine X_iload_n dX12_entry_35 rfl ?_
        refine X_iaddN dX12_entry_36 ((hc2.2 c3).2 c4).2.2.1 ((hc2.2 c3).2 c4).2.2.2.1 ?_
        refine X_imulN dX12_entry_37 (((hc2.2 c3).2 c4).2.2.2.2.2.2.1 c5).1 (((hc2.2 c3).2 c4).2.2.2.2.2.2.1 c5).2.1 ?_
        refine X_iload_n dX12_entry_38 rfl ?_
        refine X_iaddN dX12_entry_39 (((hc2.2 c3).2 c4).2.2.2.2.2.2.1 c5).2.2.1 (((hc2.2 c3).2 c4).2.2.2.2.2.2.1 c5).2.2.2.1 ?_
        refine X_istore dX12_entry_40 (by decide) rfl ?_
        refine X_iload dX12_entry_42 rfl ?_
        refine X_if_lt dX12_entry_44 (tgt := 59) rfl (fun c6 => ?_) (fun c6 => ?_)
        · refine X_iconst dX12_entry_59 (by decide) ?_
          exact X_ret (z := (-1)) dX12_entry_60 rfl (fun hv => vok_h hv) ⟨rfl, _, ((((hc2.2 c3).2 c4).2.2.2.2.2.2.1 c5).2.2.2.2.1 c6), mr1, mf1⟩
        · refine X_iload dX12_entry_47 rfl ?_
          refine X_aload_n dX12_entry_49 rfl ?_
          refine X_getfield (ci := 12) (k := 24) (v := vr (a 24)) dX12_entry_50 rfl (by decide) kf_RX12_59 (congrArg vr (MR.ar mr1 (k := 24) (by decide)).1) mr1.1 ?_
          refine X_iload dX12_entry_53 rfl ?_
          refine X_iaload dX12_entry_55 ((MR.ar mr1 (k := 24) (by decide)).2.1.trans (by decide)) ((((hc2.2 c3).2 c4).2.2.2.2.2.2.1 c5).2.2.2.2.2 c6).1 (lt_eq ((((hc2.2 c3).2 c4).2.2.2.2.2.2.1 c5).2.2.2.2.2 c6).2.1 (MR.ln mr1 (k := 24) (by decide) (by decide))) ?_
          refine X_top (v := vi (M1 24 ((4 * ((12 * x1) + x2)) + x3))) (congrArg vi (MR.el mr1 (k := 24) (by decide) rfl)) ?_
          refine X_icmp_lt dX12_entry_56 (tgt := 61) rfl (fun c7 => ?_) (fun c7 => ?_)
          · refine X_aload_n dX12_entry_61 rfl ?_
            refine X_iload_n dX12_entry_62 rfl ?_
            refine X_iload_n dX12_entry_63 rfl ?_
            refine X_invV (ci := 12) (as := [vi x1, vi x2]) (st := []) okX12_uses dX12_entry_64 km_RX12_455 rfl rfl (Nat.le_of_ble_eq_true rfl) rfl rfl mr1.1 (CT.of d 0 0 (hcl n_uses_0 rfl [x1, x2] _ _ _ (((((hc2.2 c3).2 c4).2.2.2.2.2.2.1 c5).2.2.2.2.2 c6).2.2.1 c7) mr1) (Nat.le_refl _) (Nat.zero_le _) (Nat.zero_le _) (fun z8 S8 V8 hq8 => ?_))
            obtain ⟨rfl, M8, hc9, mr8, hf8⟩ := hq8
            have mf8 := MF.trans mf1 hf8
            refine X_istore dX12_entry_67 (by decide) rfl ?_
            refine X_aload_n dX12_entry_69 rfl ?_
            refine X_aload_n dX12_entry_70 rfl ?_
            refine X_getfield (ci := 12) (k := 56) (v := vr (a 56)) dX12_entry_71 rfl (by decide) kf_RX12_128 (congrArg vr (MR.ar mr8 (k := 56) (by decide)).1) mr8.1 ?_
            refine X_bipush dX12_entry_74 (by decide) (by decide) ?_
            refine X_iload dX12_entry_76 rfl ?_
            refine X_imulN dX12_entry_78 hc9.1 hc9.2.1 ?_
            refine X_iload dX12_entry_79 rfl ?_
            refine X_iaddN dX12_entry_81 hc9.2.2.1 hc9.2.2.2.1 ?_
            refine X_iaload dX12_entry_82 ((MR.ar mr8 (k := 56) (by decide)).2.1.trans (by decide)) hc9.2.2.2.2.1 (lt_eq hc9.2.2.2.2.2.1 (MR.ln mr8 (k := 56) (by decide) (by decide))) ?_
            refine X_top (v := vi (M8 56 ((12 * ((4 * ((12 * x1) + x2)) + x3)) + x4))) (congrArg vi (MR.el mr8 (k := 56) (by decide) rfl)) ?_
            refine X_invV (ci := 12) (as := [vi (M8 56 ((12 * ((4 * ((12 * x1) + x2)) + x3)) + x4))]) (st := []) okX12_ends dX12_entry_83 km_RX12_458 rfl rfl (Nat.le_of_ble_eq_true rfl) rfl rfl mr8.1 (CT.of d 0 0 (hcl n_ends_0 rfl [M8 56 ((12 * ((4 * ((12 * x1) + x2)) + x3)) + x4)] _ _ _ hc9.2.2.2.2.2.2 mr8) (Nat.le_refl _) (Nat.zero_le _) (Nat.zero_le _) (fun z10 S10 V10 hq10 => ?_))
            obtain ⟨rfl, M10, hc11, mr10, hf10⟩ := hq10
            have mf10 := MF.trans mf8 hf10
            exact X_ret (z := z10) dX12_entry_86 rfl (fun hv => vok_h hv) ⟨rfl, _, hc11, mr10, mf10⟩
          · refine X_iconst dX12_entry_59 (by decide) ?_
            exact X_ret (z := (-1)) dX12_entry_60 rfl (fun hv => vok_h hv) ⟨rfl, _, (((((hc2.2 c3).2 c4).2.2.2.2.2.2.1 c5).2.2.2.2.2 c6).2.2.2 c7), mr1, mf1⟩
      · refine X_iconst dX12_entry_28 (by decide) ?_
        exact X_ret (z := (-1)) dX12_entry_29 rfl (fun hv => vok_h hv) ⟨rfl, _, (((hc2.2 c3).2 c4).2.2.2.2.2.2.2 c5), mr1, mf1⟩
def B_holder_0 (rc : MP) (cl : MC) (Q : Int → Mem → Prop) (d : Nat) (x1 x2 x3 : Int) (M : Mem) : Prop := cl n_isEnum_0 [x1, x2] M (fun z1 M1 => (z1 = 0 → Q (-1) M1) ∧ (¬ (z1 = 0) → (x3 < 0 → Q (-1) M1) ∧ (¬ (x3 < 0) → -2147483648 ≤ 12 * x1 ∧ 12 * x1 ≤ 2147483647 ∧ -2147483648 ≤ (12 * x1) + x2 ∧ (12 * x1) + x2 ≤ 2147483647 ∧ 0 ≤ ((12 * x1) + x2) ∧ ((12 * x1) + x2) < 120 ∧ (x3 < (M1 17 ((12 * x1) + x2)) → -2147483648 ≤ 4 * x2 ∧ 4 * x2 ≤ 2147483647 ∧ -2147483648 ≤ 100 + (4 * x2) ∧ 100 + (4 * x2) ≤ 2147483647 ∧ -2147483648 ≤ (100 + (4 * x2)) + x3 ∧ (100 + (4 * x2)) + x3 ≤ 2147483647 ∧ cl n_uses_0 [x1, (100 + (4 * x2)) + x3] M1 (fun z6 M6 => -2147483648 ≤ 12 * x1 ∧ 12 * x1 ≤ 2147483647 ∧ -2147483648 ≤ (12 * x1) + x2 ∧ (12 * x1) + x2 ≤ 2147483647 ∧ -2147483648 ≤ 4 * ((12 * x1) + x2) ∧ 4 * ((12 * x1) + x2) ≤ 2147483647 ∧ -2147483648 ≤ (4 * ((12 * x1) + x2)) + x3 ∧ (4 * ((12 * x1) + x2)) + x3 ≤ 2147483647 ∧ 0 ≤ ((4 * ((12 * x1) + x2)) + x3) ∧ ((4 * ((12 * x1) + x2)) + x3) < 480 ∧ cl n_ends_0 [M6 57 ((4 * ((12 * x1) + x2)) + x3)] M6 (fun z8 M8 => Q z8 M8))) ∧ (¬ (x3 < (M1 17 ((12 * x1) + x2))) → Q (-1) M1))))
set_option maxRecDepth 10000 in
theorem s_holder_0 {l : Launch} {G : GT} {m : Int} {a : Int → Int} {d mc ms : Nat} {S : Sh} {Q : Int → Mem → Prop} {rc : MP} {cl : MC} {V0 V M : Mem} {x1 x2 x3 : Int} (hrc : RCok l G m a S V0 Q d mc ms rc) (hcl : CLok l G m a S d cl) (mr : MR m a S V M) (mf : MF m a V0 V) (hB : B_holder_0 rc cl Q d x1 x2 x3 M) : XJ l G bX12_holder (Qm m a S V0 Q) (d + 1) 0 [vr m, vi x1, vi x2, vi x3, vu] [] S V mc ms := by
  unfold B_holder_0 at hB
  refine X_aload_n dX12_holder_0 rfl ?_
  refine X_iload_n dX12_holder_1 rfl ?_
  refine X_iload_n dX12_holder_2 rfl ?_
  refine X_invV (ci := 12) (as := [vi x1, vi x2]) (st := []) okX12_isEnum dX12_holder_3 km_RX12_439 rfl rfl (Nat.le_of_ble_eq_true rfl) rfl rfl mr.1 (CT.of d 0 0 (hcl n_isEnum_0 rfl [x1, x2] _ _ _ hB mr) (Nat.le_refl _) (Nat.zero_le _) (Nat.zero_le _) (fun z1 S1 V1 hq1 => ?_))
  obtain ⟨rfl, M1, hc2, mr1, hf1⟩ := hq1
  have mf1 := MF.trans mf hf1
  refine X_if_eq dX12_holder_6 (tgt := 28) rfl (fun c3 => ?_) (fun c3 => ?_)
  · refine X_iconst dX12_holder_28 (by decide) ?_
    exact X_ret (z := (-1)) dX12_holder_29 rfl (fun hv => vok_h hv) ⟨rfl, _, (hc2.1 c3), mr1, mf1⟩
  · refine X_iload_n dX12_holder_9 rfl ?_
    refine X_if_lt dX12_holder_10 (tgt := 28) rfl (fun c4 => ?_) (fun c4 => ?_)
    · refine X_iconst dX12_holder_28 (by decide) ?_
      exact X_ret (z := (-1)) dX12_holder_29 rfl (fun hv => vok_h hv) ⟨rfl, _, ((hc2.2 c3).1 c4), mr1, mf1⟩
    · refine X_iload_n dX12_holder_13 rfl ?_
      refine X_aload_n dX12_holder_14 rfl ?_
      refine X_getfield (ci := 12) (k := 17) (v := vr (a 17)) dX12_holder_15 rfl (by decide) kf_RX12_38 (congrArg vr (MR.ar mr1 (k := 17) (by decide)).1) mr1.1 ?_
      refine X_bipush dX12_holder_18 (by decide) (by decide) ?_
      refine X_iload_n dX12_holder_20 rfl ?_
      refine X_imulN dX12_holder_21 ((hc2.2 c3).2 c4).1 ((hc2.2 c3).2 c4).2.1 ?_
      refine X_iload_n dX12_holder_22 rfl ?_
      refine X_iaddN dX12_holder_23 ((hc2.2 c3).2 c4).2.2.1 ((hc2.2 c3).2 c4).2.2.2.1 ?_
      refine X_iaload dX12_holder_24 ((MR.ar mr1 (k := 17) (by decide)).2.1.trans (by decide)) ((hc2.2 c3).2 c4).2.2.2.2.1 (lt_eq ((hc2.2 c3).2 c4).2.2.2.2.2.1 (MR.ln mr1 (k := 17) (by decide) (by decide))) ?_
      refine X_top (v := vi (M1 17 ((12 * x1) + x2))) (congrArg vi (MR.el mr1 (k := 17) (by decide) rfl)) ?_
      refine X_icmp_lt dX12_holder_25 (tgt := 30) rfl (fun c5 => ?_) (fun c5 => ?_)
      · refine X_aload_n dX12_holder_30 rfl ?_
        refine X_iload_n dX12_holder_31 rfl ?_
        refine X_bipush dX12_holder_32 (by decide) (by decide) ?_
        refine X_iconst dX12_holder_34 (by decide) ?_
        refine X_iload_n dX12_holder_35 rfl ?_
        refine X_imulN dX12_holder_36 (((hc2.2 c3).2 c4).2.2.2.2.2.2.1 c5).1 (((hc2.2 c3).2 c4).2.2.2.2.2.2.1 c5).2.1 ?_
        refine X_iaddN dX12_holder_37 (((hc2.2 c3).2 c4).2.2.2.2.2.2.1 c5).2.2.1 (((hc2.2 c3).2 c4).2.2.2.2.2.2.1 c5).2.2.2.1 ?_
        refine X_iload_n dX12_holder_38 rfl ?_
        refine X_iaddN dX12_holder_39 (((hc2.2 c3).2 c4).2.2.2.2.2.2.1 c5).2.2.2.2.1 (((hc2.2 c3).2 c4).2.2.2.2.2.2.1 c5).2.2.2.2.2.1 ?_
        refine X_invV (ci := 12) (as := [vi x1, vi ((100 + (4 * x2)) + x3)]) (st := []) okX12_uses dX12_holder_40 km_RX12_455 rfl rfl (Nat.le_of_ble_eq_true rfl) rfl rfl mr1.1 (CT.of d 0 0 (hcl n_uses_0 rfl [x1, (100 + (4 * x2)) + x3] _ _ _ (((hc2.2 c3).2 c4).2.2.2.2.2.2.1 c5).2.2.2.2.2.2 mr1) (Nat.le_refl _) (Nat.zero_le _) (Nat.zero_le _) (fun z6 S6 V6 hq6 => ?_))
        obtain ⟨rfl, M6, hc7, mr6, hf6⟩ := hq6
        have mf6 := MF.trans mf1 hf6
        refine X_istore dX12_holder_43 (by decide) rfl ?_
        refine X_aload_n dX12_holder_45 rfl ?_
        refine X_aload_n dX12_holder_46 rfl ?_
        refine X_getfield (ci := 12) (k := 57) (v := vr (a 57)) dX12_holder_47 rfl (by decide) kf_RX12_131 (congrArg vr (MR.ar mr6 (k := 57) (by decide)).1) mr6.1 ?_
        refine X_iconst dX12_holder_50 (by decide) ?_
        refine X_bipush dX12_holder_51 (by decide) (by decide) ?_
        refine X_iload_n dX12_holder_53 rfl ?_
        refine X_imulN dX12_holder_54 hc7.1 hc7.2.1 ?_
        refine X_iload_n dX12_holder_55 rfl ?_
        refine X_iaddN dX12_holder_56 hc7.2.2.1 hc7.2.2.2.1 ?_
        refine X_imulN dX12_holder_57 hc7.2.2.2.2.1 hc7.2.2.2.2.2.1 ?_
        refine X_iload_n dX12_holder_58 rfl ?_
        refine X_iaddN dX12_holder_59 hc7.2.2.2.2.2.2.1 hc7.2.2.2.2.2.2.2.1 ?_
        refine X_iaload dX12_holder_60 ((MR.ar mr6 (k := 57) (by decide)).2.1.trans (by decide)) hc7.2.2.2.2.2.2.2.2.1 (lt_eq hc7.2.2.2.2.2.2.2.2.2.1 (MR.ln mr6 (k := 57) (by decide) (by decide))) ?_
        refine X_top (v := vi (M6 57 ((4 * ((12 * x1) + x2)) + x3))) (congrArg vi (MR.el mr6 (k := 57) (by decide) rfl)) ?_
        refine X_invV (ci := 12) (as := [vi (M6 57 ((4 * ((12 * x1) + x2)) + x3))]) (st := []) okX12_ends dX12_holder_61 km_RX12_458 rfl rfl (Nat.le_of_ble_eq_true rfl) rfl rfl mr6.1 (CT.of d 0 0 (hcl n_ends_0 rfl [M6 57 ((4 * ((12 * x1) + x2)) + x3)] _ _ _ hc7.2.2.2.2.2.2.2.2.2.2 mr6) (Nat.le_refl _) (Nat.zero_le _) (Nat.zero_le _) (fun z8 S8 V8 hq8 => ?_))
        obtain ⟨rfl, M8, hc9, mr8, hf8⟩ := hq8
        have mf8 := MF.trans mf6 hf8
        exact X_ret (z := z8) dX12_holder_64 rfl (fun hv => vok_h hv) ⟨rfl, _, hc9, mr8, mf8⟩
      · refine X_iconst dX12_holder_28 (by decide) ?_
        exact X_ret (z := (-1)) dX12_holder_29 rfl (fun hv => vok_h hv) ⟨rfl, _, (((hc2.2 c3).2 c4).2.2.2.2.2.2.2 c5), mr1, mf1⟩
def B_branch_0 (rc : MP) (cl : MC) (Q : Int → Mem → Prop) (d : Nat) (x1 x2 x3 x4 : Int) (M : Mem) : Prop := cl n_isConstant_0 [x1, x2, x4] M (fun z1 M1 => (z1 = 0 → Q (-1) M1) ∧ (¬ (z1 = 0) → (x3 < 0 → Q (-1) M1) ∧ (¬ (x3 < 0) → -2147483648 ≤ 12 * x1 ∧ 12 * x1 ≤ 2147483647 ∧ -2147483648 ≤ (12 * x1) + x2 ∧ (12 * x1) + x2 ≤ 2147483647 ∧ 0 ≤ ((12 * x1) + x2) ∧ ((12 * x1) + x2) < 120 ∧ (x3 < (M1 18 ((12 * x1) + x2)) → cl n_uses_0 [x1, x2] M1 (fun z6 M6 => (z6 ≠ (-3) → -2147483648 ≤ 12 * x1 ∧ 12 * x1 ≤ 2147483647 ∧ -2147483648 ≤ (12 * x1) + x2 ∧ (12 * x1) + x2 ≤ 2147483647 ∧ -2147483648 ≤ 3 * ((12 * x1) + x2) ∧ 3 * ((12 * x1) + x2) ≤ 2147483647 ∧ -2147483648 ≤ (3 * ((12 * x1) + x2)) + x3 ∧ (3 * ((12 * x1) + x2)) + x3 ≤ 2147483647 ∧ 0 ≤ ((3 * ((12 * x1) + x2)) + x3) ∧ ((3 * ((12 * x1) + x2)) + x3) < 360 ∧ rc n_branch_70 [x1, x2, x3, x4, (3 * ((12 * x1) + x2)) + x3, M6 34 ((3 * ((12 * x1) + x2)) + x3), 0] M6) ∧ (¬ (z6 ≠ (-3)) → Q (-3) M6))) ∧ (¬ (x3 < (M1 18 ((12 * x1) + x2))) → Q (-1) M1))))
set_option maxRecDepth 10000 in
theorem s_branch_0 {l : Launch} {G : GT} {m : Int} {a : Int → Int} {d mc ms : Nat} {S : Sh} {Q : Int → Mem → Prop} {rc : MP} {cl : MC} {V0 V M : Mem} {x1 x2 x3 x4 : Int} (hrc : RCok l G m a S V0 Q d mc ms rc) (hcl : CLok l G m a S d cl) (mr : MR m a S V M) (mf : MF m a V0 V) (hB : B_branch_0 rc cl Q d x1 x2 x3 x4 M) : XJ l G bX12_branch (Qm m a S V0 Q) (d + 1) 0 [vr m, vi x1, vi x2, vi x3, vi x4, vu, vu, vu] [] S V mc ms := by
  unfold B_branch_0 at hB
  refine X_aload_n dX12_branch_0 rfl ?_
  refine X_iload_n dX12_branch_1 rfl ?_
  refine X_iload_n dX12_branch_2 rfl ?_
  refine X_iload dX12_branch_3 rfl ?_
  refine X_invV (ci := 12) (as := [vi x1, vi x2, vi x4]) (st := []) okX12_isConstant dX12_branch_5 km_RX12_451 rfl rfl (Nat.le_of_ble_eq_true rfl) rfl rfl mr.1 (CT.of d 0 0 (hcl n_isConstant_0 rfl [x1, x2, x4] _ _ _ hB mr) (Nat.le_refl _) (Nat.zero_le _) (Nat.zero_le _) (fun z1 S1 V1 hq1 => ?_))
  obtain ⟨rfl, M1, hc2, mr1, hf1⟩ := hq1
  have mf1 := MF.trans mf hf1
  refine X_if_eq dX12_branch_8 (tgt := 30) rfl (fun c3 => ?_) (fun c3 => ?_)
  · refine X_iconst dX12_branch_30 (by decide) ?_
    exact X_ret (z := (-1)) dX12_branch_31 rfl (fun hv => vok_h hv) ⟨rfl, _, (hc2.1 c3), mr1, mf1⟩
  · refine X_iload_n dX12_branch_11 rfl ?_
    refine X_if_lt dX12_branch_12 (tgt := 30) rfl (fun c4 => ?_) (fun c4 => ?_)
    · refine X_iconst dX12_branch_30 (by decide) ?_
      exact X_ret (z := (-1)) dX12_branch_31 rfl (fun hv => vok_h hv) ⟨rfl, _, ((hc2.2 c3).1 c4), mr1, mf1⟩
    · refine X_iload_n dX12_branch_15 rfl ?_
      refine X_aload_n dX12_branch_16 rfl ?_
      refine X_getfield (ci := 12) (k := 18) (v := vr (a 18)) dX12_branch_17 rfl (by decide) kf_RX12_41 (congrArg vr (MR.ar mr1 (k := 18) (by decide)).1) mr1.1 ?_
      refine X_bipush dX12_branch_20 (by decide) (by decide) ?_
      refine X_iload_n dX12_branch_22 rfl ?_
      refine X_imulN dX12_branch_23 ((hc2.2 c3).2 c4).1 ((hc2.2 c3).2 c4).2.1 ?_
      refine X_iload_n dX12_branch_24 rfl ?_
      refine X_iaddN dX12_branch_25 ((hc2.2 c3).2 c4).2.2.1 ((hc2.2 c3).2 c4).2.2.2.1 ?_
      refine X_iaload dX12_branch_26 ((MR.ar mr1 (k := 18) (by decide)).2.1.trans (by decide)) ((hc2.2 c3).2 c4).2.2.2.2.1 (lt_eq ((hc2.2 c3).2 c4).2.2.2.2.2.1 (MR.ln mr1 (k := 18) (by decide) (by decide))) ?_
      refine X_top (v := vi (M1 18 ((12 * x1) + x2))) (congrArg vi (MR.el mr1 (k := 18) (by decide) rfl)) ?_
      refine X_icmp_lt dX12_branch_27 (tgt := 32) rfl (fun c5 => ?_) (fun c5 => ?_)
      · refine X_aload_n dX12_branch_32 rfl ?_
        refine X_iload_n dX12_branch_33 rfl ?_
        refine X_iload_n dX12_branch_34 rfl ?_
        refine X_invV (ci := 12) (as := [vi x1, vi x2]) (st := []) okX12_uses dX12_branch_35 km_RX12_455 rfl rfl (Nat.le_of_ble_eq_true rfl) rfl rfl mr1.1 (CT.of d 0 0 (hcl n_uses_0 rfl [x1, x2] _ _ _ (((hc2.2 c3).2 c4).2.2.2.2.2.2.1 c5) mr1) (Nat.le_refl _) (Nat.zero_le _) (Nat.zero_le _) (fun z6 S6 V6 hq6 => ?_))
        obtain ⟨rfl, M6, hc7, mr6, hf6⟩ := hq6
        have mf6 := MF.trans mf1 hf6
        refine X_bipush dX12_branch_38 (by decide) (by decide) ?_
        refine X_icmp_ne dX12_branch_40 (tgt := 46) rfl (fun c8 => ?_) (fun c8 => ?_)
        · refine X_iconst dX12_branch_46 (by decide) ?_
          refine X_bipush dX12_branch_47 (by decide) (by decide) ?_
          refine X_iload_n dX12_branch_49 rfl ?_
          refine X_imulN dX12_branch_50 (hc7.1 c8).1 (hc7.1 c8).2.1 ?_
          refine X_iload_n dX12_branch_51 rfl ?_
          refine X_iaddN dX12_branch_52 (hc7.1 c8).2.2.1 (hc7.1 c8).2.2.2.1 ?_
          refine X_imulN dX12_branch_53 (hc7.1 c8).2.2.2.2.1 (hc7.1 c8).2.2.2.2.2.1 ?_
          refine X_iload_n dX12_branch_54 rfl ?_
          refine X_iaddN dX12_branch_55 (hc7.1 c8).2.2.2.2.2.2.1 (hc7.1 c8).2.2.2.2.2.2.2.1 ?_
          refine X_istore dX12_branch_56 (by decide) rfl ?_
          refine X_aload_n dX12_branch_58 rfl ?_
          refine X_getfield (ci := 12) (k := 34) (v := vr (a 34)) dX12_branch_59 rfl (by decide) kf_RX12_89 (congrArg vr (MR.ar mr6 (k := 34) (by decide)).1) mr6.1 ?_
          refine X_iload dX12_branch_62 rfl ?_
          refine X_iaload dX12_branch_64 ((MR.ar mr6 (k := 34) (by decide)).2.1.trans (by decide)) (hc7.1 c8).2.2.2.2.2.2.2.2.1 (lt_eq (hc7.1 c8).2.2.2.2.2.2.2.2.2.1 (MR.ln mr6 (k := 34) (by decide) (by decide))) ?_
          refine X_top (v := vi (M6 34 ((3 * ((12 * x1) + x2)) + x3))) (congrArg vi (MR.el mr6 (k := 34) (by decide) rfl)) ?_
          refine X_istore dX12_branch_65 (by decide) rfl ?_
          refine X_iconst dX12_branch_67 (by decide) ?_
          refine X_istore dX12_branch_68 (by decide) rfl ?_
          exact hrc n_branch_70 [x1, x2, x3, x4, (3 * ((12 * x1) + x2)) + x3, M6 34 ((3 * ((12 * x1) + x2)) + x3), 0] _ _ (hc7.1 c8).2.2.2.2.2.2.2.2.2.2 mr6 mf6
        · refine X_bipush dX12_branch_43 (by decide) (by decide) ?_
          exact X_ret (z := (-3)) dX12_branch_45 rfl (fun hv => vok_h hv) ⟨rfl, _, (hc7.2 c8), mr6, mf6⟩
      · refine X_iconst dX12_branch_30 (by decide) ?_
        exact X_ret (z := (-1)) dX12_branch_31 rfl (fun hv => vok_h hv) ⟨rfl, _, (((hc2.2 c3).2 c4).2.2.2.2.2.2.2 c5), mr1, mf1⟩
def B_branch_70 (rc : MP) (cl : MC) (Q : Int → Mem → Prop) (d : Nat) (x1 x2 x3 x4 x5 x6 x7 : Int) (M : Mem) : Prop := 0 ≤ x5 ∧ x5 < 360 ∧ ((M 30 x5) ≤ x7 → cl n_value_0 [x6, (-1), (-1)] M (fun z2 M2 => cl n_ends_0 [z2] M2 (fun z4 M4 => Q z4 M4))) ∧ (¬ ((M 30 x5) ≤ x7) → -2147483648 ≤ 12 * x5 ∧ 12 * x5 ≤ 2147483647 ∧ -2147483648 ≤ (12 * x5) + x7 ∧ (12 * x5) + x7 ≤ 2147483647 ∧ 0 ≤ ((12 * x5) + x7) ∧ ((12 * x5) + x7) < 4320 ∧ ((M 32 ((12 * x5) + x7)) ≠ x4 → -2147483648 ≤ x7 + 1 ∧ x7 + 1 ≤ 2147483647 ∧ rc n_branch_70 [x1, x2, x3, x4, x5, x6, x7 + 1] M) ∧ (¬ ((M 32 ((12 * x5) + x7)) ≠ x4) → -2147483648 ≤ x7 + 1 ∧ x7 + 1 ≤ 2147483647 ∧ rc n_branch_70 [x1, x2, x3, x4, x5, M 33 ((12 * x5) + x7), x7 + 1] M))
set_option maxRecDepth 10000 in
theorem s_branch_70 {l : Launch} {G : GT} {m : Int} {a : Int → Int} {d mc ms : Nat} {S : Sh} {Q : Int → Mem → Prop} {rc : MP} {cl : MC} {V0 V M : Mem} {x1 x2 x3 x4 x5 x6 x7 : Int} (hrc : RCok l G m a S V0 Q d mc ms rc) (hcl : CLok l G m a S d cl) (mr : MR m a S V M) (mf : MF m a V0 V) (hB : B_branch_70 rc cl Q d x1 x2 x3 x4 x5 x6 x7 M) : XJ l G bX12_branch (Qm m a S V0 Q) (d + 1) 70 [vr m, vi x1, vi x2, vi x3, vi x4, vi x5, vi x6, vi x7] [] S V mc ms := by
  unfold B_branch_70 at hB
  refine X_iload dX12_branch_70 rfl ?_
  refine X_aload_n dX12_branch_72 rfl ?_
  refine X_getfield (ci := 12) (k := 30) (v := vr (a 30)) dX12_branch_73 rfl (by decide) kf_RX12_77 (congrArg vr (MR.ar mr (k := 30) (by decide)).1) mr.1 ?_
  refine X_iload dX12_branch_76 rfl ?_
  refine X_iaload dX12_branch_78 ((MR.ar mr (k := 30) (by decide)).2.1.trans (by decide)) hB.1 (lt_eq hB.2.1 (MR.ln mr (k := 30) (by decide) (by decide))) ?_
  refine X_top (v := vi (M 30 x5)) (congrArg vi (MR.el mr (k := 30) (by decide) rfl)) ?_
  refine X_icmp_ge dX12_branch_79 (tgt := 121) rfl (fun c1 => ?_) (fun c1 => ?_)
  · refine X_aload_n dX12_branch_121 rfl ?_
    refine X_iload dX12_branch_122 rfl ?_
    refine X_iconst dX12_branch_124 (by decide) ?_
    refine X_iconst dX12_branch_125 (by decide) ?_
    refine X_invV (ci := 12) (as := [vi x6, vi (-1), vi (-1)]) (st := []) okX12_value dX12_branch_126 km_RX12_422 rfl rfl (Nat.le_of_ble_eq_true rfl) rfl rfl mr.1 (CT.of d 0 0 (hcl n_value_0 rfl [x6, (-1), (-1)] _ _ _ (hB.2.2.1 c1) mr) (Nat.le_refl _) (Nat.zero_le _) (Nat.zero_le _) (fun z2 S2 V2 hq2 => ?_))
    obtain ⟨rfl, M2, hc3, mr2, hf2⟩ := hq2
    have mf2 := MF.trans mf hf2
    refine X_istore dX12_branch_129 (by decide) rfl ?_
    refine X_aload_n dX12_branch_131 rfl ?_
    refine X_iload dX12_branch_132 rfl ?_
    refine X_invV (ci := 12) (as := [vi z2]) (st := []) okX12_ends dX12_branch_134 km_RX12_458 rfl rfl (Nat.le_of_ble_eq_true rfl) rfl rfl mr2.1 (CT.of d 0 0 (hcl n_ends_0 rfl [z2] _ _ _ hc3 mr2) (Nat.le_refl _) (Nat.zero_le _) (Nat.zero_le _) (fun z4 S4 V4 hq4 => ?_))
    obtain ⟨rfl, M4, hc5, mr4, hf4⟩ := hq4
    have mf4 := MF.trans mf2 hf4
    exact X_ret (z := z4) dX12_branch_137 rfl (fun hv => vok_h hv) ⟨rfl, _, hc5, mr4, mf4⟩
  · refine X_aload_n dX12_branch_82 rfl ?_
    refine X_getfield (ci := 12) (k := 32) (v := vr (a 32)) dX12_branch_83 rfl (by decide) kf_RX12_83 (congrArg vr (MR.ar mr (k := 32) (by decide)).1) mr.1 ?_
    refine X_bipush dX12_branch_86 (by decide) (by decide) ?_
    refine X_iload dX12_branch_88 rfl ?_
    refine X_imulN dX12_branch_90 (hB.2.2.2 c1).1 (hB.2.2.2 c1).2.1 ?_
    refine X_iload dX12_branch_91 rfl ?_
    refine X_iaddN dX12_branch_93 (hB.2.2.2 c1).2.2.1 (hB.2.2.2 c1).2.2.2.1 ?_
    refine X_iaload dX12_branch_94 ((MR.ar mr (k := 32) (by decide)).2.1.trans (by decide)) (hB.2.2.2 c1).2.2.2.2.1 (lt_eq (hB.2.2.2 c1).2.2.2.2.2.1 (MR.ln mr (k := 32) (by decide) (by decide))) ?_
    refine X_top (v := vi (M 32 ((12 * x5) + x7))) (congrArg vi (MR.el mr (k := 32) (by decide) rfl)) ?_
    refine X_iload dX12_branch_95 rfl ?_
    refine X_icmp_ne dX12_branch_97 (tgt := 115) rfl (fun c6 => ?_) (fun c6 => ?_)
    · refine X_iincN dX12_branch_115 rfl (by decide) rfl (e := x7 + 1) rfl ((hB.2.2.2 c1).2.2.2.2.2.2.1 c6).1 ((hB.2.2.2 c1).2.2.2.2.2.2.1 c6).2.1 ?_
      refine X_goto dX12_branch_118 (tgt := 70) rfl ?_
      exact hrc n_branch_70 [x1, x2, x3, x4, x5, x6, x7 + 1] _ _ ((hB.2.2.2 c1).2.2.2.2.2.2.1 c6).2.2 mr mf
    · refine X_aload_n dX12_branch_100 rfl ?_
      refine X_getfield (ci := 12) (k := 33) (v := vr (a 33)) dX12_branch_101 rfl (by decide) kf_RX12_86 (congrArg vr (MR.ar mr (k := 33) (by decide)).1) mr.1 ?_
      refine X_bipush dX12_branch_104 (by decide) (by decide) ?_
      refine X_iload dX12_branch_106 rfl ?_
      refine X_imulN dX12_branch_108 (hB.2.2.2 c1).1 (hB.2.2.2 c1).2.1 ?_
      refine X_iload dX12_branch_109 rfl ?_
      refine X_iaddN dX12_branch_111 (hB.2.2.2 c1).2.2.1 (hB.2.2.2 c1).2.2.2.1 ?_
      refine X_iaload dX12_branch_112 ((MR.ar mr (k := 33) (by decide)).2.1.trans (by decide)) (hB.2.2.2 c1).2.2.2.2.1 (lt_eq (hB.2.2.2 c1).2.2.2.2.2.1 (MR.ln mr (k := 33) (by decide) (by decide))) ?_
      refine X_top (v := vi (M 33 ((12 * x5) + x7))) (congrArg vi (MR.el mr (k := 33) (by decide) rfl)) ?_
      refine X_istore dX12_branch_113 (by decide) rfl ?_
      refine X_iincN dX12_branch_115 rfl (by decide) rfl (e := x7 + 1) rfl ((hB.2.2.2 c1).2.2.2.2.2.2.2 c6).1 ((hB.2.2.2 c1).2.2.2.2.2.2.2 c6).2.1 ?_
      refine X_goto dX12_branch_118 (tgt := 70) rfl ?_
      exact hrc n_branch_70 [x1, x2, x3, x4, x5, M 33 ((12 * x5) + x7), x7 + 1] _ _ ((hB.2.2.2 c1).2.2.2.2.2.2.2 c6).2.2 mr mf
def B_out_0 (rc : MP) (cl : MC) (Q : Int → Mem → Prop) (d : Nat) (M : Mem) : Prop := Q (M 0 69) M
set_option maxRecDepth 10000 in
theorem s_out_0 {l : Launch} {G : GT} {m : Int} {a : Int → Int} {d mc ms : Nat} {S : Sh} {Q : Int → Mem → Prop} {rc : MP} {cl : MC} {V0 V M : Mem} (hrc : RCok l G m a S V0 Q d mc ms rc) (hcl : CLok l G m a S d cl) (mr : MR m a S V M) (mf : MF m a V0 V) (hB : B_out_0 rc cl Q d  M) : XJ l G bX12_out (Qm m a S V0 Q) (d + 1) 0 [vr m] [] S V mc ms := by
  unfold B_out_0 at hB
  refine X_aload_n dX12_out_0 rfl ?_
  refine X_getfield (ci := 12) (k := 69) (v := vi (M 0 69)) dX12_out_1 rfl (by decide) kf_RX12_442 (congrArg vi (MR.in_ mr (k := 69) (by decide) rfl)) mr.1 ?_
  exact X_ret (z := (M 0 69)) dX12_out_4 rfl (fun hv => vok_h hv) ⟨rfl, _, hB, mr, mf⟩
def B_cause_0 (rc : MP) (cl : MC) (Q : Int → Mem → Prop) (d : Nat) (x1 x2 : Int) (M : Mem) : Prop := (x1 < 0 → Q (-1) M) ∧ (¬ (x1 < 0) → ((M 0 68) ≤ x1 → Q (-1) M) ∧ (¬ ((M 0 68) ≤ x1) → (x2 < 0 → Q (-1) M) ∧ (¬ (x2 < 0) → (x2 ≤ 1 → -2147483648 ≤ (M 0 68) - 1 ∧ (M 0 68) - 1 ≤ 2147483647 ∧ -2147483648 ≤ ((M 0 68) - 1) - x1 ∧ ((M 0 68) - 1) - x1 ≤ 2147483647 ∧ (x2 ≠ 0 → 0 ≤ (((M 0 68) - 1) - x1) ∧ (((M 0 68) - 1) - x1) < 40 ∧ Q (M 67 (((M 0 68) - 1) - x1)) M) ∧ (¬ (x2 ≠ 0) → 0 ≤ (((M 0 68) - 1) - x1) ∧ (((M 0 68) - 1) - x1) < 40 ∧ Q (M 66 (((M 0 68) - 1) - x1)) M)) ∧ (¬ (x2 ≤ 1) → Q (-1) M))))
set_option maxRecDepth 10000 in
theorem s_cause_0 {l : Launch} {G : GT} {m : Int} {a : Int → Int} {d mc ms : Nat} {S : Sh} {Q : Int → Mem → Prop} {rc : MP} {cl : MC} {V0 V M : Mem} {x1 x2 : Int} (hrc : RCok l G m a S V0 Q d mc ms rc) (hcl : CLok l G m a S d cl) (mr : MR m a S V M) (mf : MF m a V0 V) (hB : B_cause_0 rc cl Q d x1 x2 M) : XJ l G bX12_cause (Qm m a S V0 Q) (d + 1) 0 [vr m, vi x1, vi x2, vu] [] S V mc ms := by
  unfold B_cause_0 at hB
  refine X_iload_n dX12_cause_0 rfl ?_
  refine X_if_lt dX12_cause_1 (tgt := 21) rfl (fun c1 => ?_) (fun c1 => ?_)
  · refine X_iconst dX12_cause_21 (by decide) ?_
    exact X_ret (z := (-1)) dX12_cause_22 rfl (fun hv => vok_h hv) ⟨rfl, _, (hB.1 c1), mr, mf⟩
  · refine X_iload_n dX12_cause_4 rfl ?_
    refine X_aload_n dX12_cause_5 rfl ?_
    refine X_getfield (ci := 12) (k := 68) (v := vi (M 0 68)) dX12_cause_6 rfl (by decide) kf_RX12_404 (congrArg vi (MR.in_ mr (k := 68) (by decide) rfl)) mr.1 ?_
    refine X_icmp_ge dX12_cause_9 (tgt := 21) rfl (fun c2 => ?_) (fun c2 => ?_)
    · refine X_iconst dX12_cause_21 (by decide) ?_
      exact X_ret (z := (-1)) dX12_cause_22 rfl (fun hv => vok_h hv) ⟨rfl, _, ((hB.2 c1).1 c2), mr, mf⟩
    · refine X_iload_n dX12_cause_12 rfl ?_
      refine X_if_lt dX12_cause_13 (tgt := 21) rfl (fun c3 => ?_) (fun c3 => ?_)
      · refine X_iconst dX12_cause_21 (by decide) ?_
        exact X_ret (z := (-1)) dX12_cause_22 rfl (fun hv => vok_h hv) ⟨rfl, _, (((hB.2 c1).2 c2).1 c3), mr, mf⟩
      · refine X_iload_n dX12_cause_16 rfl ?_
        refine X_iconst dX12_cause_17 (by decide) ?_
        refine X_icmp_le dX12_cause_18 (tgt := 23) rfl (fun c4 => ?_) (fun c4 => ?_)
        · refine X_aload_n dX12_cause_23 rfl ?_
          refine X_getfield (ci := 12) (k := 68) (v := vi (M 0 68)) dX12_cause_24 rfl (by decide) kf_RX12_404 (congrArg vi (MR.in_ mr (k := 68) (by decide) rfl)) mr.1 ?_
          refine X_iconst dX12_cause_27 (by decide) ?_
          refine X_isubN dX12_cause_28 ((((hB.2 c1).2 c2).2 c3).1 c4).1 ((((hB.2 c1).2 c2).2 c3).1 c4).2.1 ?_
          refine X_iload_n dX12_cause_29 rfl ?_
          refine X_isubN dX12_cause_30 ((((hB.2 c1).2 c2).2 c3).1 c4).2.2.1 ((((hB.2 c1).2 c2).2 c3).1 c4).2.2.2.1 ?_
          refine X_istore_n dX12_cause_31 (by decide) rfl ?_
          refine X_iload_n dX12_cause_32 rfl ?_
          refine X_if_ne dX12_cause_33 (tgt := 45) rfl (fun c5 => ?_) (fun c5 => ?_)
          · refine X_aload_n dX12_cause_45 rfl ?_
            refine X_getfield (ci := 12) (k := 67) (v := vr (a 67)) dX12_cause_46 rfl (by decide) kf_RX12_155 (congrArg vr (MR.ar mr (k := 67) (by decide)).1) mr.1 ?_
            refine X_iload_n dX12_cause_49 rfl ?_
            refine X_iaload dX12_cause_50 ((MR.ar mr (k := 67) (by decide)).2.1.trans (by decide)) (((((hB.2 c1).2 c2).2 c3).1 c4).2.2.2.2.1 c5).1 (lt_eq (((((hB.2 c1).2 c2).2 c3).1 c4).2.2.2.2.1 c5).2.1 (MR.ln mr (k := 67) (by decide) (by decide))) ?_
            refine X_top (v := vi (M 67 (((M 0 68) - 1) - x1))) (congrArg vi (MR.el mr (k := 67) (by decide) rfl)) ?_
            exact X_ret (z := (M 67 (((M 0 68) - 1) - x1))) dX12_cause_51 rfl (fun hv => vok_h hv) ⟨rfl, _, (((((hB.2 c1).2 c2).2 c3).1 c4).2.2.2.2.1 c5).2.2, mr, mf⟩
          · refine X_aload_n dX12_cause_36 rfl ?_
            refine X_getfield (ci := 12) (k := 66) (v := vr (a 66)) dX12_cause_37 rfl (by decide) kf_RX12_152 (congrArg vr (MR.ar mr (k := 66) (by decide)).1) mr.1 ?_
            refine X_iload_n dX12_cause_40 rfl ?_
            refine X_iaload dX12_cause_41 ((MR.ar mr (k := 66) (by decide)).2.1.trans (by decide)) (((((hB.2 c1).2 c2).2 c3).1 c4).2.2.2.2.2 c5).1 (lt_eq (((((hB.2 c1).2 c2).2 c3).1 c4).2.2.2.2.2 c5).2.1 (MR.ln mr (k := 66) (by decide) (by decide))) ?_
            refine X_top (v := vi (M 66 (((M 0 68) - 1) - x1))) (congrArg vi (MR.el mr (k := 66) (by decide) rfl)) ?_
            refine X_goto dX12_cause_42 (tgt := 51) rfl ?_
            exact X_ret (z := (M 66 (((M 0 68) - 1) - x1))) dX12_cause_51 rfl (fun hv => vok_h hv) ⟨rfl, _, (((((hB.2 c1).2 c2).2 c3).1 c4).2.2.2.2.2 c5).2.2, mr, mf⟩
        · refine X_iconst dX12_cause_21 (by decide) ?_
          exact X_ret (z := (-1)) dX12_cause_22 rfl (fun hv => vok_h hv) ⟨rfl, _, ((((hB.2 c1).2 c2).2 c3).2 c4), mr, mf⟩
def B_start_0 (rc : MP) (cl : MC) (Q : Int → Mem → Prop) (d : Nat) (x1 x2 : Int) (M : Mem) : Prop := (x1 < 0 → Q (-1) M) ∧ (¬ (x1 < 0) → ((M 0 8) ≤ x1 → Q (-1) M) ∧ (¬ ((M 0 8) ≤ x1) → (x2 < 0 → Q (-1) M) ∧ (¬ (x2 < 0) → 0 ≤ x1 ∧ x1 < 10 ∧ ((M 59 x1) ≤ x2 → Q (-1) M) ∧ (¬ ((M 59 x1) ≤ x2) → -2147483648 ≤ 160 * x1 ∧ 160 * x1 ≤ 2147483647 ∧ -2147483648 ≤ (160 * x1) + x2 ∧ (160 * x1) + x2 ≤ 2147483647 ∧ 0 ≤ ((160 * x1) + x2) ∧ ((160 * x1) + x2) < 1600 ∧ Q (M 58 ((160 * x1) + x2)) M))))
set_option maxRecDepth 10000 in
theorem s_start_0 {l : Launch} {G : GT} {m : Int} {a : Int → Int} {d mc ms : Nat} {S : Sh} {Q : Int → Mem → Prop} {rc : MP} {cl : MC} {V0 V M : Mem} {x1 x2 : Int} (hrc : RCok l G m a S V0 Q d mc ms rc) (hcl : CLok l G m a S d cl) (mr : MR m a S V M) (mf : MF m a V0 V) (hB : B_start_0 rc cl Q d x1 x2 M) : XJ l G bX12_start (Qm m a S V0 Q) (d + 1) 0 [vr m, vi x1, vi x2] [] S V mc ms := by
  unfold B_start_0 at hB
  refine X_iload_n dX12_start_0 rfl ?_
  refine X_if_lt dX12_start_1 (tgt := 41) rfl (fun c1 => ?_) (fun c1 => ?_)
  · refine X_iconst dX12_start_41 (by decide) ?_
    exact X_ret (z := (-1)) dX12_start_42 rfl (fun hv => vok_h hv) ⟨rfl, _, (hB.1 c1), mr, mf⟩
  · refine X_iload_n dX12_start_4 rfl ?_
    refine X_aload_n dX12_start_5 rfl ?_
    refine X_getfield (ci := 12) (k := 8) (v := vi (M 0 8)) dX12_start_6 rfl (by decide) kf_RX12_392 (congrArg vi (MR.in_ mr (k := 8) (by decide) rfl)) mr.1 ?_
    refine X_icmp_ge dX12_start_9 (tgt := 41) rfl (fun c2 => ?_) (fun c2 => ?_)
    · refine X_iconst dX12_start_41 (by decide) ?_
      exact X_ret (z := (-1)) dX12_start_42 rfl (fun hv => vok_h hv) ⟨rfl, _, ((hB.2 c1).1 c2), mr, mf⟩
    · refine X_iload_n dX12_start_12 rfl ?_
      refine X_if_lt dX12_start_13 (tgt := 41) rfl (fun c3 => ?_) (fun c3 => ?_)
      · refine X_iconst dX12_start_41 (by decide) ?_
        exact X_ret (z := (-1)) dX12_start_42 rfl (fun hv => vok_h hv) ⟨rfl, _, (((hB.2 c1).2 c2).1 c3), mr, mf⟩
      · refine X_iload_n dX12_start_16 rfl ?_
        refine X_aload_n dX12_start_17 rfl ?_
        refine X_getfield (ci := 12) (k := 59) (v := vr (a 59)) dX12_start_18 rfl (by decide) kf_RX12_137 (congrArg vr (MR.ar mr (k := 59) (by decide)).1) mr.1 ?_
        refine X_iload_n dX12_start_21 rfl ?_
        refine X_iaload dX12_start_22 ((MR.ar mr (k := 59) (by decide)).2.1.trans (by decide)) (((hB.2 c1).2 c2).2 c3).1 (lt_eq (((hB.2 c1).2 c2).2 c3).2.1 (MR.ln mr (k := 59) (by decide) (by decide))) ?_
        refine X_top (v := vi (M 59 x1)) (congrArg vi (MR.el mr (k := 59) (by decide) rfl)) ?_
        refine X_icmp_ge dX12_start_23 (tgt := 41) rfl (fun c4 => ?_) (fun c4 => ?_)
        · refine X_iconst dX12_start_41 (by decide) ?_
          exact X_ret (z := (-1)) dX12_start_42 rfl (fun hv => vok_h hv) ⟨rfl, _, ((((hB.2 c1).2 c2).2 c3).2.2.1 c4), mr, mf⟩
        · refine X_aload_n dX12_start_26 rfl ?_
          refine X_getfield (ci := 12) (k := 58) (v := vr (a 58)) dX12_start_27 rfl (by decide) kf_RX12_134 (congrArg vr (MR.ar mr (k := 58) (by decide)).1) mr.1 ?_
          refine X_sipush dX12_start_30 (by decide) (by decide) ?_
          refine X_iload_n dX12_start_33 rfl ?_
          refine X_imulN dX12_start_34 ((((hB.2 c1).2 c2).2 c3).2.2.2 c4).1 ((((hB.2 c1).2 c2).2 c3).2.2.2 c4).2.1 ?_
          refine X_iload_n dX12_start_35 rfl ?_
          refine X_iaddN dX12_start_36 ((((hB.2 c1).2 c2).2 c3).2.2.2 c4).2.2.1 ((((hB.2 c1).2 c2).2 c3).2.2.2 c4).2.2.2.1 ?_
          refine X_iaload dX12_start_37 ((MR.ar mr (k := 58) (by decide)).2.1.trans (by decide)) ((((hB.2 c1).2 c2).2 c3).2.2.2 c4).2.2.2.2.1 (lt_eq ((((hB.2 c1).2 c2).2 c3).2.2.2 c4).2.2.2.2.2.1 (MR.ln mr (k := 58) (by decide) (by decide))) ?_
          refine X_top (v := vi (M 58 ((160 * x1) + x2))) (congrArg vi (MR.el mr (k := 58) (by decide) rfl)) ?_
          refine X_goto dX12_start_38 (tgt := 42) rfl ?_
          exact X_ret (z := (M 58 ((160 * x1) + x2))) dX12_start_42 rfl (fun hv => vok_h hv) ⟨rfl, _, ((((hB.2 c1).2 c2).2 c3).2.2.2 c4).2.2.2.2.2.2, mr, mf⟩
def B_seen_0 (rc : MP) (cl : MC) (Q : Int → Mem → Prop) (d : Nat) (x1 x2 x3 : Int) (M : Mem) : Prop := (x1 < 0 → Q (-1) M) ∧ (¬ (x1 < 0) → ((M 0 8) ≤ x1 → Q (-1) M) ∧ (¬ ((M 0 8) ≤ x1) → (x2 < 0 → Q (-1) M) ∧ (¬ (x2 < 0) → 0 ≤ x1 ∧ x1 < 10 ∧ ((M 62 x1) ≤ x2 → Q (-1) M) ∧ (¬ ((M 62 x1) ≤ x2) → (x3 < 0 → Q (-1) M) ∧ (¬ (x3 < 0) → (x3 ≤ 1 → (x3 ≠ 0 → -2147483648 ≤ 3100 * x1 ∧ 3100 * x1 ≤ 2147483647 ∧ -2147483648 ≤ (3100 * x1) + x2 ∧ (3100 * x1) + x2 ≤ 2147483647 ∧ 0 ≤ ((3100 * x1) + x2) ∧ ((3100 * x1) + x2) < 31000 ∧ Q (M 61 ((3100 * x1) + x2)) M) ∧ (¬ (x3 ≠ 0) → -2147483648 ≤ 3100 * x1 ∧ 3100 * x1 ≤ 2147483647 ∧ -2147483648 ≤ (3100 * x1) + x2 ∧ (3100 * x1) + x2 ≤ 2147483647 ∧ 0 ≤ ((3100 * x1) + x2) ∧ ((3100 * x1) + x2) < 31000 ∧ Q (M 60 ((3100 * x1) + x2)) M)) ∧ (¬ (x3 ≤ 1) → Q (-1) M))))))
set_option maxRecDepth 10000 in
theorem s_seen_0 {l : Launch} {G : GT} {m : Int} {a : Int → Int} {d mc ms : Nat} {S : Sh} {Q : Int → Mem → Prop} {rc : MP} {cl : MC} {V0 V M : Mem} {x1 x2 x3 : Int} (hrc : RCok l G m a S V0 Q d mc ms rc) (hcl : CLok l G m a S d cl) (mr : MR m a S V M) (mf : MF m a V0 V) (hB : B_seen_0 rc cl Q d x1 x2 x3 M) : XJ l G bX12_seen (Qm m a S V0 Q) (d + 1) 0 [vr m, vi x1, vi x2, vi x3] [] S V mc ms := by
  unfold B_seen_0 at hB
  refine X_iload_n dX12_seen_0 rfl ?_
  refine X_if_lt dX12_seen_1 (tgt := 35) rfl (fun c1 => ?_) (fun c1 => ?_)
  · refine X_iconst dX12_seen_35 (by decide) ?_
    exact X_ret (z := (-1)) dX12_seen_36 rfl (fun hv => vok_h hv) ⟨rfl, _, (hB.1 c1), mr, mf⟩
  · refine X_iload_n dX12_seen_4 rfl ?_
    refine X_aload_n dX12_seen_5 rfl ?_
    refine X_getfield (ci := 12) (k := 8) (v := vi (M 0 8)) dX12_seen_6 rfl (by decide) kf_RX12_392 (congrArg vi (MR.in_ mr (k := 8) (by decide) rfl)) mr.1 ?_
    refine X_icmp_ge dX12_seen_9 (tgt := 35) rfl (fun c2 => ?_) (fun c2 => ?_)
    · refine X_iconst dX12_seen_35 (by decide) ?_
      exact X_ret (z := (-1)) dX12_seen_36 rfl (fun hv => vok_h hv) ⟨rfl, _, ((hB.2 c1).1 c2), mr, mf⟩
    · refine X_iload_n dX12_seen_12 rfl ?_
      refine X_if_lt dX12_seen_13 (tgt := 35) rfl (fun c3 => ?_) (fun c3 => ?_)
      · refine X_iconst dX12_seen_35 (by decide) ?_
        exact X_ret (z := (-1)) dX12_seen_36 rfl (fun hv => vok_h hv) ⟨rfl, _, (((hB.2 c1).2 c2).1 c3), mr, mf⟩
      · refine X_iload_n dX12_seen_16 rfl ?_
        refine X_aload_n dX12_seen_17 rfl ?_
        refine X_getfield (ci := 12) (k := 62) (v := vr (a 62)) dX12_seen_18 rfl (by decide) kf_RX12_146 (congrArg vr (MR.ar mr (k := 62) (by decide)).1) mr.1 ?_
        refine X_iload_n dX12_seen_21 rfl ?_
        refine X_iaload dX12_seen_22 ((MR.ar mr (k := 62) (by decide)).2.1.trans (by decide)) (((hB.2 c1).2 c2).2 c3).1 (lt_eq (((hB.2 c1).2 c2).2 c3).2.1 (MR.ln mr (k := 62) (by decide) (by decide))) ?_
        refine X_top (v := vi (M 62 x1)) (congrArg vi (MR.el mr (k := 62) (by decide) rfl)) ?_
        refine X_icmp_ge dX12_seen_23 (tgt := 35) rfl (fun c4 => ?_) (fun c4 => ?_)
        · refine X_iconst dX12_seen_35 (by decide) ?_
          exact X_ret (z := (-1)) dX12_seen_36 rfl (fun hv => vok_h hv) ⟨rfl, _, ((((hB.2 c1).2 c2).2 c3).2.2.1 c4), mr, mf⟩
        · refine X_iload_n dX12_seen_26 rfl ?_
          refine X_if_lt dX12_seen_27 (tgt := 35) rfl (fun c5 => ?_) (fun c5 => ?_)
          · refine X_iconst dX12_seen_35 (by decide) ?_
            exact X_ret (z := (-1)) dX12_seen_36 rfl (fun hv => vok_h hv) ⟨rfl, _, (((((hB.2 c1).2 c2).2 c3).2.2.2 c4).1 c5), mr, mf⟩
          · refine X_iload_n dX12_seen_30 rfl ?_
            refine X_iconst dX12_seen_31 (by decide) ?_
            refine X_icmp_le dX12_seen_32 (tgt := 37) rfl (fun c6 => ?_) (fun c6 => ?_)
            · refine X_iload_n dX12_seen_37 rfl ?_
              refine X_if_ne dX12_seen_38 (tgt := 56) rfl (fun c7 => ?_) (fun c7 => ?_)
              · refine X_aload_n dX12_seen_56 rfl ?_
                refine X_getfield (ci := 12) (k := 61) (v := vr (a 61)) dX12_seen_57 rfl (by decide) kf_RX12_143 (congrArg vr (MR.ar mr (k := 61) (by decide)).1) mr.1 ?_
                refine X_sipush dX12_seen_60 (by decide) (by decide) ?_
                refine X_iload_n dX12_seen_63 rfl ?_
                refine X_imulN dX12_seen_64 (((((((hB.2 c1).2 c2).2 c3).2.2.2 c4).2 c5).1 c6).1 c7).1 (((((((hB.2 c1).2 c2).2 c3).2.2.2 c4).2 c5).1 c6).1 c7).2.1 ?_
                refine X_iload_n dX12_seen_65 rfl ?_
                refine X_iaddN dX12_seen_66 (((((((hB.2 c1).2 c2).2 c3).2.2.2 c4).2 c5).1 c6).1 c7).2.2.1 (((((((hB.2 c1).2 c2).2 c3).2.2.2 c4).2 c5).1 c6).1 c7).2.2.2.1 ?_
                refine X_iaload dX12_seen_67 ((MR.ar mr (k := 61) (by decide)).2.1.trans (by decide)) (((((((hB.2 c1).2 c2).2 c3).2.2.2 c4).2 c5).1 c6).1 c7).2.2.2.2.1 (lt_eq (((((((hB.2 c1).2 c2).2 c3).2.2.2 c4).2 c5).1 c6).1 c7).2.2.2.2.2.1 (MR.ln mr (k := 61) (by decide) (by decide))) ?_
                refine X_top (v := vi (M 61 ((3100 * x1) + x2))) (congrArg vi (MR.el mr (k := 61) (by decide) rfl)) ?_
                exact X_ret (z := (M 61 ((3100 * x1) + x2))) dX12_seen_68 rfl (fun hv => vok_h hv) ⟨rfl, _, (((((((hB.2 c1).2 c2).2 c3).2.2.2 c4).2 c5).1 c6).1 c7).2.2.2.2.2.2, mr, mf⟩
              · refine X_aload_n dX12_seen_41 rfl ?_
                refine X_getfield (ci := 12) (k := 60) (v := vr (a 60)) dX12_seen_42 rfl (by decide) kf_RX12_140 (congrArg vr (MR.ar mr (k := 60) (by decide)).1) mr.1 ?_
                refine X_sipush dX12_seen_45 (by decide) (by decide) ?_
                refine X_iload_n dX12_seen_48 rfl ?_
                refine X_imulN dX12_seen_49 (((((((hB.2 c1).2 c2).2 c3).2.2.2 c4).2 c5).1 c6).2 c7).1 (((((((hB.2 c1).2 c2).2 c3).2.2.2 c4).2 c5).1 c6).2 c7).2.1 ?_
                refine X_iload_n dX12_seen_50 rfl ?_
                refine X_iaddN dX12_seen_51 (((((((hB.2 c1).2 c2).2 c3).2.2.2 c4).2 c5).1 c6).2 c7).2.2.1 (((((((hB.2 c1).2 c2).2 c3).2.2.2 c4).2 c5).1 c6).2 c7).2.2.2.1 ?_
                refine X_iaload dX12_seen_52 ((MR.ar mr (k := 60) (by decide)).2.1.trans (by decide)) (((((((hB.2 c1).2 c2).2 c3).2.2.2 c4).2 c5).1 c6).2 c7).2.2.2.2.1 (lt_eq (((((((hB.2 c1).2 c2).2 c3).2.2.2 c4).2 c5).1 c6).2 c7).2.2.2.2.2.1 (MR.ln mr (k := 60) (by decide) (by decide))) ?_
                refine X_top (v := vi (M 60 ((3100 * x1) + x2))) (congrArg vi (MR.el mr (k := 60) (by decide) rfl)) ?_
                refine X_goto dX12_seen_53 (tgt := 68) rfl ?_
                exact X_ret (z := (M 60 ((3100 * x1) + x2))) dX12_seen_68 rfl (fun hv => vok_h hv) ⟨rfl, _, (((((((hB.2 c1).2 c2).2 c3).2.2.2 c4).2 c5).1 c6).2 c7).2.2.2.2.2.2, mr, mf⟩
            · refine X_iconst dX12_seen_35 (by decide) ?_
              exact X_ret (z := (-1)) dX12_seen_36 rfl (fun hv => vok_h hv) ⟨rfl, _, ((((((hB.2 c1).2 c2).2 c3).2.2.2 c4).2 c5).2 c6), mr, mf⟩
def B_set_0 (rc : MP) (cl : MC) (Q : Int → Mem → Prop) (d : Nat) (x1 x2 : Int) (M : Mem) : Prop := cl n_isEnum_0 [x1, x2] M (fun z1 M1 => (z1 ≠ 0 → ((M1 0 72) ≠ 40 → cl n_uses_0 [x1, x2] M1 (fun z5 M5 => (z5 ≠ (-3) → -2147483648 ≤ 12 * x1 ∧ 12 * x1 ≤ 2147483647 ∧ -2147483648 ≤ (12 * x1) + x2 ∧ (12 * x1) + x2 ≤ 2147483647 ∧ 0 ≤ (M5 0 72) ∧ (M5 0 72) < 40 ∧ -2147483648 ≤ (M5 0 72) + 1 ∧ (M5 0 72) + 1 ≤ 2147483647 ∧ -2147483648 ≤ ((M5 0 72) + 1) - 1 ∧ ((M5 0 72) + 1) - 1 ≤ 2147483647 ∧ Q (((M5 0 72) + 1) - 1) (up (up (up M5 70 (M5 0 72) ((12 * x1) + x2)) 71 (M5 0 72) 0) 0 72 ((M5 0 72) + 1))) ∧ (¬ (z5 ≠ (-3)) → Q (-3) M5))) ∧ (¬ ((M1 0 72) ≠ 40) → Q (-2) M1)) ∧ (¬ (z1 ≠ 0) → Q (-1) M1))
set_option maxRecDepth 10000 in
theorem s_set_0 {l : Launch} {G : GT} {m : Int} {a : Int → Int} {d mc ms : Nat} {S : Sh} {Q : Int → Mem → Prop} {rc : MP} {cl : MC} {V0 V M : Mem} {x1 x2 : Int} (hrc : RCok l G m a S V0 Q d mc ms rc) (hcl : CLok l G m a S d cl) (mr : MR m a S V M) (mf : MF m a V0 V) (hB : B_set_0 rc cl Q d x1 x2 M) : XJ l G bX12_set (Qm m a S V0 Q) (d + 1) 0 [vr m, vi x1, vi x2] [] S V mc ms := by
  unfold B_set_0 at hB
  refine X_aload_n dX12_set_0 rfl ?_
  refine X_iload_n dX12_set_1 rfl ?_
  refine X_iload_n dX12_set_2 rfl ?_
  refine X_invV (ci := 12) (as := [vi x1, vi x2]) (st := []) okX12_isEnum dX12_set_3 km_RX12_439 rfl rfl (Nat.le_of_ble_eq_true rfl) rfl rfl mr.1 (CT.of d 0 0 (hcl n_isEnum_0 rfl [x1, x2] _ _ _ hB mr) (Nat.le_refl _) (Nat.zero_le _) (Nat.zero_le _) (fun z1 S1 V1 hq1 => ?_))
  obtain ⟨rfl, M1, hc2, mr1, hf1⟩ := hq1
  have mf1 := MF.trans mf hf1
  refine X_if_ne dX12_set_6 (tgt := 11) rfl (fun c3 => ?_) (fun c3 => ?_)
  · refine X_aload_n dX12_set_11 rfl ?_
    refine X_getfield (ci := 12) (k := 72) (v := vi (M1 0 72)) dX12_set_12 rfl (by decide) kf_RX12_461 (congrArg vi (MR.in_ mr1 (k := 72) (by decide) rfl)) mr1.1 ?_
    refine X_bipush dX12_set_15 (by decide) (by decide) ?_
    refine X_icmp_ne dX12_set_17 (tgt := 23) rfl (fun c4 => ?_) (fun c4 => ?_)
    · refine X_aload_n dX12_set_23 rfl ?_
      refine X_iload_n dX12_set_24 rfl ?_
      refine X_iload_n dX12_set_25 rfl ?_
      refine X_invV (ci := 12) (as := [vi x1, vi x2]) (st := []) okX12_uses dX12_set_26 km_RX12_455 rfl rfl (Nat.le_of_ble_eq_true rfl) rfl rfl mr1.1 (CT.of d 0 0 (hcl n_uses_0 rfl [x1, x2] _ _ _ ((hc2.1 c3).1 c4) mr1) (Nat.le_refl _) (Nat.zero_le _) (Nat.zero_le _) (fun z5 S5 V5 hq5 => ?_))
      obtain ⟨rfl, M5, hc6, mr5, hf5⟩ := hq5
      have mf5 := MF.trans mf1 hf5
      refine X_bipush dX12_set_29 (by decide) (by decide) ?_
      refine X_icmp_ne dX12_set_31 (tgt := 37) rfl (fun c7 => ?_) (fun c7 => ?_)
      · refine X_aload_n dX12_set_37 rfl ?_
        refine X_getfield (ci := 12) (k := 70) (v := vr (a 70)) dX12_set_38 rfl (by decide) kf_RX12_158 (congrArg vr (MR.ar mr5 (k := 70) (by decide)).1) mr5.1 ?_
        refine X_aload_n dX12_set_41 rfl ?_
        refine X_getfield (ci := 12) (k := 72) (v := vi (M5 0 72)) dX12_set_42 rfl (by decide) kf_RX12_461 (congrArg vi (MR.in_ mr5 (k := 72) (by decide) rfl)) mr5.1 ?_
        refine X_bipush dX12_set_45 (by decide) (by decide) ?_
        refine X_iload_n dX12_set_47 rfl ?_
        refine X_imulN dX12_set_48 (hc6.1 c7).1 (hc6.1 c7).2.1 ?_
        refine X_iload_n dX12_set_49 rfl ?_
        refine X_iaddN dX12_set_50 (hc6.1 c7).2.2.1 (hc6.1 c7).2.2.2.1 ?_
        refine X_iastore dX12_set_51 ((MR.ar mr5 (k := 70) (by decide)).2.1.trans (by decide)) (hc6.1 c7).2.2.2.2.1 (lt_eq (hc6.1 c7).2.2.2.2.2.1 (MR.ln mr5 (k := 70) (by decide) (by decide))) ?_
        refine X_aload_n dX12_set_52 rfl ?_
        refine X_getfield (ci := 12) (k := 71) (v := vr (a 71)) dX12_set_53 rfl (by decide) kf_RX12_161 (congrArg vr (MR.ar (MR.putA mr5 (k := 70) (j := M5 0 72) (z := (12 * x1) + x2) (by decide)) (k := 71) (by decide)).1) (MR.putA mr5 (k := 70) (j := M5 0 72) (z := (12 * x1) + x2) (by decide)).1 ?_
        refine X_aload_n dX12_set_56 rfl ?_
        refine X_getfield (ci := 12) (k := 72) (v := vi (M5 0 72)) dX12_set_57 rfl (by decide) kf_RX12_461 (congrArg vi (MR.in_ (MR.putA mr5 (k := 70) (j := M5 0 72) (z := (12 * x1) + x2) (by decide)) (k := 72) (by decide) (up_ne (Or.inl (by decide))))) (MR.putA mr5 (k := 70) (j := M5 0 72) (z := (12 * x1) + x2) (by decide)).1 ?_
        refine X_iconst dX12_set_60 (by decide) ?_
        refine X_iastore dX12_set_61 ((MR.ar (MR.putA mr5 (k := 70) (j := M5 0 72) (z := (12 * x1) + x2) (by decide)) (k := 71) (by decide)).2.1.trans (by decide)) (hc6.1 c7).2.2.2.2.1 (lt_eq (hc6.1 c7).2.2.2.2.2.1 (MR.ln (MR.putA mr5 (k := 70) (j := M5 0 72) (z := (12 * x1) + x2) (by decide)) (k := 71) (by decide) (by decide))) ?_
        refine X_aload_n dX12_set_62 rfl ?_
        refine X_dup dX12_set_63 (rv_cat _) ?_
        refine X_getfield (ci := 12) (k := 72) (v := vi (M5 0 72)) dX12_set_64 rfl (by decide) kf_RX12_461 (congrArg vi (MR.in_ (MR.putA (MR.putA mr5 (k := 70) (j := M5 0 72) (z := (12 * x1) + x2) (by decide)) (k := 71) (j := M5 0 72) (z := 0) (by decide)) (k := 72) (by decide) ((up_ne (Or.inl (by decide))).trans (up_ne (Or.inl (by decide)))))) (MR.putA (MR.putA mr5 (k := 70) (j := M5 0 72) (z := (12 * x1) + x2) (by decide)) (k := 71) (j := M5 0 72) (z := 0) (by decide)).1 ?_
        refine X_iconst dX12_set_67 (by decide) ?_
        refine X_iaddN dX12_set_68 (hc6.1 c7).2.2.2.2.2.2.1 (hc6.1 c7).2.2.2.2.2.2.2.1 ?_
        refine X_putfield (ci := 12) (k := 72) (z := ((M5 0 72) + 1)) dX12_set_69 rfl (by decide) kf_RX12_461 (Or.inl rfl) (Or.inl rfl) rfl (fun hv => hv) (MR.putA (MR.putA mr5 (k := 70) (j := M5 0 72) (z := (12 * x1) + x2) (by decide)) (k := 71) (j := M5 0 72) (z := 0) (by decide)).1 ?_
        refine X_aload_n dX12_set_72 rfl ?_
        refine X_getfield (ci := 12) (k := 72) (v := vi ((M5 0 72) + 1)) dX12_set_73 rfl (by decide) kf_RX12_461 (congrArg vi (MR.in_ (MR.putI (MR.putA (MR.putA mr5 (k := 70) (j := M5 0 72) (z := (12 * x1) + x2) (by decide)) (k := 71) (j := M5 0 72) (z := 0) (by decide)) (k := 72) (z := (M5 0 72) + 1) (by decide)) (k := 72) (by decide) (up_eq))) (MR.putI (MR.putA (MR.putA mr5 (k := 70) (j := M5 0 72) (z := (12 * x1) + x2) (by decide)) (k := 71) (j := M5 0 72) (z := 0) (by decide)) (k := 72) (z := (M5 0 72) + 1) (by decide)).1 ?_
        refine X_iconst dX12_set_76 (by decide) ?_
        refine X_isubN dX12_set_77 (hc6.1 c7).2.2.2.2.2.2.2.2.1 (hc6.1 c7).2.2.2.2.2.2.2.2.2.1 ?_
        exact X_ret (z := (((M5 0 72) + 1) - 1)) dX12_set_78 rfl (fun hv => vok_h hv) ⟨rfl, _, (hc6.1 c7).2.2.2.2.2.2.2.2.2.2, (MR.putI (MR.putA (MR.putA mr5 (k := 70) (j := M5 0 72) (z := (12 * x1) + x2) (by decide)) (k := 71) (j := M5 0 72) (z := 0) (by decide)) (k := 72) (z := (M5 0 72) + 1) (by decide)), (MF.putI (MF.putA (MF.putA mf5 (k := 70) (j := M5 0 72) (z := (12 * x1) + x2) (by decide)) (k := 71) (j := M5 0 72) (z := 0) (by decide)) (k := 72) (z := (M5 0 72) + 1))⟩
      · refine X_bipush dX12_set_34 (by decide) (by decide) ?_
        exact X_ret (z := (-3)) dX12_set_36 rfl (fun hv => vok_h hv) ⟨rfl, _, (hc6.2 c7), mr5, mf5⟩
    · refine X_bipush dX12_set_20 (by decide) (by decide) ?_
      exact X_ret (z := (-2)) dX12_set_22 rfl (fun hv => vok_h hv) ⟨rfl, _, ((hc2.1 c3).2 c4), mr1, mf1⟩
  · refine X_iconst dX12_set_9 (by decide) ?_
    exact X_ret (z := (-1)) dX12_set_10 rfl (fun hv => vok_h hv) ⟨rfl, _, (hc2.2 c3), mr1, mf1⟩
def B_isIn_0 (rc : MP) (cl : MC) (Q : Int → Mem → Prop) (d : Nat) (x1 x2 : Int) (M : Mem) : Prop := (x1 < 0 → Q 0 M) ∧ (¬ (x1 < 0) → ((M 0 72) ≤ x1 → Q 0 M) ∧ (¬ ((M 0 72) ≤ x1) → (x2 < 0 → Q 0 M) ∧ (¬ (x2 < 0) → 0 ≤ x1 ∧ x1 < 40 ∧ 0 ≤ (M 70 x1) ∧ (M 70 x1) < 120 ∧ ((M 14 (M 70 x1)) ≤ x2 → Q 0 M) ∧ (¬ ((M 14 (M 70 x1)) ≤ x2) → Q 1 M))))
set_option maxRecDepth 10000 in
theorem s_isIn_0 {l : Launch} {G : GT} {m : Int} {a : Int → Int} {d mc ms : Nat} {S : Sh} {Q : Int → Mem → Prop} {rc : MP} {cl : MC} {V0 V M : Mem} {x1 x2 : Int} (hrc : RCok l G m a S V0 Q d mc ms rc) (hcl : CLok l G m a S d cl) (mr : MR m a S V M) (mf : MF m a V0 V) (hB : B_isIn_0 rc cl Q d x1 x2 M) : XJ l G bX12_isIn (Qm m a S V0 Q) (d + 1) 0 [vr m, vi x1, vi x2] [] S V mc ms := by
  unfold B_isIn_0 at hB
  refine X_iload_n dX12_isIn_0 rfl ?_
  refine X_if_lt dX12_isIn_1 (tgt := 35) rfl (fun c1 => ?_) (fun c1 => ?_)
  · refine X_iconst dX12_isIn_35 (by decide) ?_
    exact X_ret (z := 0) dX12_isIn_36 rfl (fun _ => Or.inl rfl) ⟨rfl, _, (hB.1 c1), mr, mf⟩
  · refine X_iload_n dX12_isIn_4 rfl ?_
    refine X_aload_n dX12_isIn_5 rfl ?_
    refine X_getfield (ci := 12) (k := 72) (v := vi (M 0 72)) dX12_isIn_6 rfl (by decide) kf_RX12_461 (congrArg vi (MR.in_ mr (k := 72) (by decide) rfl)) mr.1 ?_
    refine X_icmp_ge dX12_isIn_9 (tgt := 35) rfl (fun c2 => ?_) (fun c2 => ?_)
    · refine X_iconst dX12_isIn_35 (by decide) ?_
      exact X_ret (z := 0) dX12_isIn_36 rfl (fun _ => Or.inl rfl) ⟨rfl, _, ((hB.2 c1).1 c2), mr, mf⟩
    · refine X_iload_n dX12_isIn_12 rfl ?_
      refine X_if_lt dX12_isIn_13 (tgt := 35) rfl (fun c3 => ?_) (fun c3 => ?_)
      · refine X_iconst dX12_isIn_35 (by decide) ?_
        exact X_ret (z := 0) dX12_isIn_36 rfl (fun _ => Or.inl rfl) ⟨rfl, _, (((hB.2 c1).2 c2).1 c3), mr, mf⟩
      · refine X_iload_n dX12_isIn_16 rfl ?_
        refine X_aload_n dX12_isIn_17 rfl ?_
        refine X_getfield (ci := 12) (k := 14) (v := vr (a 14)) dX12_isIn_18 rfl (by decide) kf_RX12_29 (congrArg vr (MR.ar mr (k := 14) (by decide)).1) mr.1 ?_
        refine X_aload_n dX12_isIn_21 rfl ?_
        refine X_getfield (ci := 12) (k := 70) (v := vr (a 70)) dX12_isIn_22 rfl (by decide) kf_RX12_158 (congrArg vr (MR.ar mr (k := 70) (by decide)).1) mr.1 ?_
        refine X_iload_n dX12_isIn_25 rfl ?_
        refine X_iaload dX12_isIn_26 ((MR.ar mr (k := 70) (by decide)).2.1.trans (by decide)) (((hB.2 c1).2 c2).2 c3).1 (lt_eq (((hB.2 c1).2 c2).2 c3).2.1 (MR.ln mr (k := 70) (by decide) (by decide))) ?_
        refine X_top (v := vi (M 70 x1)) (congrArg vi (MR.el mr (k := 70) (by decide) rfl)) ?_
        refine X_iaload dX12_isIn_27 ((MR.ar mr (k := 14) (by decide)).2.1.trans (by decide)) (((hB.2 c1).2 c2).2 c3).2.2.1 (lt_eq (((hB.2 c1).2 c2).2 c3).2.2.2.1 (MR.ln mr (k := 14) (by decide) (by decide))) ?_
        refine X_top (v := vi (M 14 (M 70 x1))) (congrArg vi (MR.el mr (k := 14) (by decide) rfl)) ?_
        refine X_icmp_ge dX12_isIn_28 (tgt := 35) rfl (fun c4 => ?_) (fun c4 => ?_)
        · refine X_iconst dX12_isIn_35 (by decide) ?_
          exact X_ret (z := 0) dX12_isIn_36 rfl (fun _ => Or.inl rfl) ⟨rfl, _, ((((hB.2 c1).2 c2).2 c3).2.2.2.2.1 c4), mr, mf⟩
        · refine X_iconst dX12_isIn_31 (by decide) ?_
          refine X_goto dX12_isIn_32 (tgt := 36) rfl ?_
          exact X_ret (z := 1) dX12_isIn_36 rfl (fun _ => Or.inr rfl) ⟨rfl, _, ((((hB.2 c1).2 c2).2 c3).2.2.2.2.2 c4), mr, mf⟩
def B_add_0 (rc : MP) (cl : MC) (Q : Int → Mem → Prop) (d : Nat) (x1 x2 : Int) (M : Mem) : Prop := cl n_isIn_0 [x1, x2] M (fun z1 M1 => (z1 ≠ 0 → 0 ≤ x1 ∧ x1 < 40 ∧ -2147483648 ≤ 1 - (bAnd (bShr (M1 71 x1) x2) 1) ∧ 1 - (bAnd (bShr (M1 71 x1) x2) 1) ≤ 2147483647 ∧ Q (1 - (bAnd (bShr (M1 71 x1) x2) 1)) (up M1 71 x1 (bOr (M1 71 x1) (bShl 1 x2)))) ∧ (¬ (z1 ≠ 0) → Q (-1) M1))
set_option maxRecDepth 10000 in
theorem s_add_0 {l : Launch} {G : GT} {m : Int} {a : Int → Int} {d mc ms : Nat} {S : Sh} {Q : Int → Mem → Prop} {rc : MP} {cl : MC} {V0 V M : Mem} {x1 x2 : Int} (hrc : RCok l G m a S V0 Q d mc ms rc) (hcl : CLok l G m a S d cl) (mr : MR m a S V M) (mf : MF m a V0 V) (hB : B_add_0 rc cl Q d x1 x2 M) : XJ l G bX12_add (Qm m a S V0 Q) (d + 1) 0 [vr m, vi x1, vi x2, vu] [] S V mc ms := by
  unfold B_add_0 at hB
  refine X_aload_n dX12_add_0 rfl ?_
  refine X_iload_n dX12_add_1 rfl ?_
  refine X_iload_n dX12_add_2 rfl ?_
  refine X_invV (ci := 12) (as := [vi x1, vi x2]) (st := []) okX12_isIn dX12_add_3 km_RX12_464 rfl rfl (Nat.le_of_ble_eq_true rfl) rfl rfl mr.1 (CT.of d 0 0 (hcl n_isIn_0 rfl [x1, x2] _ _ _ hB mr) (Nat.le_refl _) (Nat.zero_le _) (Nat.zero_le _) (fun z1 S1 V1 hq1 => ?_))
  obtain ⟨rfl, M1, hc2, mr1, hf1⟩ := hq1
  have mf1 := MF.trans mf hf1
  refine X_if_ne dX12_add_6 (tgt := 11) rfl (fun c3 => ?_) (fun c3 => ?_)
  · refine X_aload_n dX12_add_11 rfl ?_
    refine X_getfield (ci := 12) (k := 71) (v := vr (a 71)) dX12_add_12 rfl (by decide) kf_RX12_161 (congrArg vr (MR.ar mr1 (k := 71) (by decide)).1) mr1.1 ?_
    refine X_iload_n dX12_add_15 rfl ?_
    refine X_iaload dX12_add_16 ((MR.ar mr1 (k := 71) (by decide)).2.1.trans (by decide)) (hc2.1 c3).1 (lt_eq (hc2.1 c3).2.1 (MR.ln mr1 (k := 71) (by decide) (by decide))) ?_
    refine X_top (v := vi (M1 71 x1)) (congrArg vi (MR.el mr1 (k := 71) (by decide) rfl)) ?_
    refine X_iload_n dX12_add_17 rfl ?_
    refine X_ishr dX12_add_18 ?_
    refine X_iconst dX12_add_19 (by decide) ?_
    refine X_iand dX12_add_20 ?_
    refine X_istore_n dX12_add_21 (by decide) rfl ?_
    refine X_aload_n dX12_add_22 rfl ?_
    refine X_getfield (ci := 12) (k := 71) (v := vr (a 71)) dX12_add_23 rfl (by decide) kf_RX12_161 (congrArg vr (MR.ar mr1 (k := 71) (by decide)).1) mr1.1 ?_
    refine X_iload_n dX12_add_26 rfl ?_
    refine X_dup2 dX12_add_27 rfl (rv_cat _) ?_
    refine X_iaload dX12_add_28 ((MR.ar mr1 (k := 71) (by decide)).2.1.trans (by decide)) (hc2.1 c3).1 (lt_eq (hc2.1 c3).2.1 (MR.ln mr1 (k := 71) (by decide) (by decide))) ?_
    refine X_top (v := vi (M1 71 x1)) (congrArg vi (MR.el mr1 (k := 71) (by decide) rfl)) ?_
    refine X_iconst dX12_add_29 (by decide) ?_
    refine X_iload_n dX12_add_30 rfl ?_
    refine X_ishl dX12_add_31 ?_
    refine X_ior dX12_add_32 ?_
    refine X_iastore dX12_add_33 ((MR.ar mr1 (k := 71) (by decide)).2.1.trans (by decide)) (hc2.1 c3).1 (lt_eq (hc2.1 c3).2.1 (MR.ln mr1 (k := 71) (by decide) (by decide))) ?_
    refine X_iconst dX12_add_34 (by decide) ?_
    refine X_iload_n dX12_add_35 rfl ?_
    refine X_isubN dX12_add_36 (hc2.1 c3).2.2.1 (hc2.1 c3).2.2.2.1 ?_
    exact X_ret (z := (1 - (bAnd (bShr (M1 71 x1) x2) 1))) dX12_add_37 rfl (fun hv => vok_h hv) ⟨rfl, _, (hc2.1 c3).2.2.2.2, (MR.putA mr1 (k := 71) (j := x1) (z := bOr (M1 71 x1) (bShl 1 x2)) (by decide)), (MF.putA mf1 (k := 71) (j := x1) (z := bOr (M1 71 x1) (bShl 1 x2)) (by decide))⟩
  · refine X_iconst dX12_add_9 (by decide) ?_
    exact X_ret (z := (-1)) dX12_add_10 rfl (fun hv => vok_h hv) ⟨rfl, _, (hc2.2 c3), mr1, mf1⟩
def B_take_0 (rc : MP) (cl : MC) (Q : Int → Mem → Prop) (d : Nat) (x1 x2 : Int) (M : Mem) : Prop := cl n_isIn_0 [x1, x2] M (fun z1 M1 => (z1 ≠ 0 → 0 ≤ x1 ∧ x1 < 40 ∧ Q (bAnd (bShr (M1 71 x1) x2) 1) (up M1 71 x1 (bAnd (M1 71 x1) (bXor (bShl 1 x2) (-1))))) ∧ (¬ (z1 ≠ 0) → Q (-1) M1))
set_option maxRecDepth 10000 in
theorem s_take_0 {l : Launch} {G : GT} {m : Int} {a : Int → Int} {d mc ms : Nat} {S : Sh} {Q : Int → Mem → Prop} {rc : MP} {cl : MC} {V0 V M : Mem} {x1 x2 : Int} (hrc : RCok l G m a S V0 Q d mc ms rc) (hcl : CLok l G m a S d cl) (mr : MR m a S V M) (mf : MF m a V0 V) (hB : B_take_0 rc cl Q d x1 x2 M) : XJ l G bX12_take (Qm m a S V0 Q) (d + 1) 0 [vr m, vi x1, vi x2, vu] [] S V mc ms := by
  unfold B_take_0 at hB
  refine X_aload_n dX12_take_0 rfl ?_
  refine X_iload_n dX12_take_1 rfl ?_
  refine X_iload_n dX12_take_2 rfl ?_
  refine X_invV (ci := 12) (as := [vi x1, vi x2]) (st := []) okX12_isIn dX12_take_3 km_RX12_464 rfl rfl (Nat.le_of_ble_eq_true rfl) rfl rfl mr.1 (CT.of d 0 0 (hcl n_isIn_0 rfl [x1, x2] _ _ _ hB mr) (Nat.le_refl _) (Nat.zero_le _) (Nat.zero_le _) (fun z1 S1 V1 hq1 => ?_))
  obtain ⟨rfl, M1, hc2, mr1, hf1⟩ := hq1
  have mf1 := MF.trans mf hf1
  refine X_if_ne dX12_take_6 (tgt := 11) rfl (fun c3 => ?_) (fun c3 => ?_)
  · refine X_aload_n dX12_take_11 rfl ?_
    refine X_getfield (ci := 12) (k := 71) (v := vr (a 71)) dX12_take_12 rfl (by decide) kf_RX12_161 (congrArg vr (MR.ar mr1 (k := 71) (by decide)).1) mr1.1 ?_
    refine X_iload_n dX12_take_15 rfl ?_
    refine X_iaload dX12_take_16 ((MR.ar mr1 (k := 71) (by decide)).2.1.trans (by decide)) (hc2.1 c3).1 (lt_eq (hc2.1 c3).2.1 (MR.ln mr1 (k := 71) (by decide) (by decide))) ?_
    refine X_top (v := vi (M1 71 x1)) (congrArg vi (MR.el mr1 (k := 71) (by decide) rfl)) ?_
    refine X_iload_n dX12_take_17 rfl ?_
    refine X_ishr dX12_take_18 ?_
    refine X_iconst dX12_take_19 (by decide) ?_
    refine X_iand dX12_take_20 ?_
    refine X_istore_n dX12_take_21 (by decide) rfl ?_
    refine X_aload_n dX12_take_22 rfl ?_
    refine X_getfield (ci := 12) (k := 71) (v := vr (a 71)) dX12_take_23 rfl (by decide) kf_RX12_161 (congrArg vr (MR.ar mr1 (k := 71) (by decide)).1) mr1.1 ?_
    refine X_iload_n dX12_take_26 rfl ?_
    refine X_dup2 dX12_take_27 rfl (rv_cat _) ?_
    refine X_iaload dX12_take_28 ((MR.ar mr1 (k := 71) (by decide)).2.1.trans (by decide)) (hc2.1 c3).1 (lt_eq (hc2.1 c3).2.1 (MR.ln mr1 (k := 71) (by decide) (by decide))) ?_
    refine X_top (v := vi (M1 71 x1)) (congrArg vi (MR.el mr1 (k := 71) (by decide) rfl)) ?_
    refine X_iconst dX12_take_29 (by decide) ?_
    refine X_iload_n dX12_take_30 rfl ?_
    refine X_ishl dX12_take_31 ?_
    refine X_iconst dX12_take_32 (by decide) ?_
    refine X_ixor dX12_take_33 ?_
    refine X_iand dX12_take_34 ?_
    refine X_iastore dX12_take_35 ((MR.ar mr1 (k := 71) (by decide)).2.1.trans (by decide)) (hc2.1 c3).1 (lt_eq (hc2.1 c3).2.1 (MR.ln mr1 (k := 71) (by decide) (by decide))) ?_
    refine X_iload_n dX12_take_36 rfl ?_
    exact X_ret (z := (bAnd (bShr (M1 71 x1) x2) 1)) dX12_take_37 rfl (fun hv => vok_h hv) ⟨rfl, _, (hc2.1 c3).2.2, (MR.putA mr1 (k := 71) (j := x1) (z := bAnd (M1 71 x1) (bXor (bShl 1 x2) (-1))) (by decide)), (MF.putA mf1 (k := 71) (j := x1) (z := bAnd (M1 71 x1) (bXor (bShl 1 x2) (-1))) (by decide))⟩
  · refine X_iconst dX12_take_9 (by decide) ?_
    exact X_ret (z := (-1)) dX12_take_10 rfl (fun hv => vok_h hv) ⟨rfl, _, (hc2.2 c3), mr1, mf1⟩
def B_join_0 (rc : MP) (cl : MC) (Q : Int → Mem → Prop) (d : Nat) (x1 x2 x3 : Int) (M : Mem) : Prop := (x1 < 0 → Q (-1) M) ∧ (¬ (x1 < 0) → ((M 0 72) ≤ x1 → Q (-1) M) ∧ (¬ ((M 0 72) ≤ x1) → (x2 < 0 → Q (-1) M) ∧ (¬ (x2 < 0) → (x2 < (M 0 72) → 0 ≤ x1 ∧ x1 < 40 ∧ 0 ≤ x2 ∧ x2 < 40 ∧ ((M 70 x1) ≠ (M 70 x2) → Q (-4) M) ∧ (¬ ((M 70 x1) ≠ (M 70 x2)) → (x3 < 0 → Q (-4) M) ∧ (¬ (x3 < 0) → (x3 ≤ 3 → ((M 0 72) ≠ 40 → 0 ≤ (M 0 72) ∧ (M 0 72) < 40 ∧ (x3 ≠ 0 → (x3 ≠ 1 → (x3 ≠ 2 → -2147483648 ≤ (M 0 72) + 1 ∧ (M 0 72) + 1 ≤ 2147483647 ∧ -2147483648 ≤ ((M 0 72) + 1) - 1 ∧ ((M 0 72) + 1) - 1 ≤ 2147483647 ∧ Q (((M 0 72) + 1) - 1) (up (up (up M 70 (M 0 72) (M 70 x1)) 71 (M 0 72) (bXor (M 71 x1) (M 71 x2))) 0 72 ((M 0 72) + 1))) ∧ (¬ (x3 ≠ 2) → -2147483648 ≤ (M 0 72) + 1 ∧ (M 0 72) + 1 ≤ 2147483647 ∧ -2147483648 ≤ ((M 0 72) + 1) - 1 ∧ ((M 0 72) + 1) - 1 ≤ 2147483647 ∧ Q (((M 0 72) + 1) - 1) (up (up (up M 70 (M 0 72) (M 70 x1)) 71 (M 0 72) (bAnd (M 71 x1) (bXor (M 71 x2) (-1)))) 0 72 ((M 0 72) + 1)))) ∧ (¬ (x3 ≠ 1) → -2147483648 ≤ (M 0 72) + 1 ∧ (M 0 72) + 1 ≤ 2147483647 ∧ -2147483648 ≤ ((M 0 72) + 1) - 1 ∧ ((M 0 72) + 1) - 1 ≤ 2147483647 ∧ Q (((M 0 72) + 1) - 1) (up (up (up M 70 (M 0 72) (M 70 x1)) 71 (M 0 72) (bAnd (M 71 x1) (M 71 x2))) 0 72 ((M 0 72) + 1)))) ∧ (¬ (x3 ≠ 0) → -2147483648 ≤ (M 0 72) + 1 ∧ (M 0 72) + 1 ≤ 2147483647 ∧ -2147483648 ≤ ((M 0 72) + 1) - 1 ∧ ((M 0 72) + 1) - 1 ≤ 2147483647 ∧ Q (((M 0 72) + 1) - 1) (up (up (up M 70 (M 0 72) (M 70 x1)) 71 (M 0 72) (bOr (M 71 x1) (M 71 x2))) 0 72 ((M 0 72) + 1)))) ∧ (¬ ((M 0 72) ≠ 40) → Q (-2) M)) ∧ (¬ (x3 ≤ 3) → Q (-4) M)))) ∧ (¬ (x2 < (M 0 72)) → Q (-1) M))))
set_option maxRecDepth 10000 in
theorem s_join_0 {l : Launch} {G : GT} {m : Int} {a : Int → Int} {d mc ms : Nat} {S : Sh} {Q : Int → Mem → Prop} {rc : MP} {cl : MC} {V0 V M : Mem} {x1 x2 x3 : Int} (hrc : RCok l G m a S V0 Q d mc ms rc) (hcl : CLok l G m a S d cl) (mr : MR m a S V M) (mf : MF m a V0 V) (hB : B_join_0 rc cl Q d x1 x2 x3 M) : XJ l G bX12_join (Qm m a S V0 Q) (d + 1) 0 [vr m, vi x1, vi x2, vi x3, vu, vu] [] S V mc ms := by
  unfold B_join_0 at hB
  refine X_iload_n dX12_join_0 rfl ?_
  refine X_if_lt dX12_join_1 (tgt := 24) rfl (fun c1 => ?_) (fun c1 => ?_)
  · refine X_iconst dX12_join_24 (by decide) ?_
    exact X_ret (z := (-1)) dX12_join_25 rfl (fun hv => vok_h hv) ⟨rfl, _, (hB.1 c1), mr, mf⟩
  · refine X_iload_n dX12_join_4 rfl ?_
    refine X_aload_n dX12_join_5 rfl ?_
    refine X_getfield (ci := 12) (k := 72) (v := vi (M 0 72)) dX12_join_6 rfl (by decide) kf_RX12_461 (congrArg vi (MR.in_ mr (k := 72) (by decide) rfl)) mr.1 ?_
    refine X_icmp_ge dX12_join_9 (tgt := 24) rfl (fun c2 => ?_) (fun c2 => ?_)
    · refine X_iconst dX12_join_24 (by decide) ?_
      exact X_ret (z := (-1)) dX12_join_25 rfl (fun hv => vok_h hv) ⟨rfl, _, ((hB.2 c1).1 c2), mr, mf⟩
    · refine X_iload_n dX12_join_12 rfl ?_
      refine X_if_lt dX12_join_13 (tgt := 24) rfl (fun c3 => ?_) (fun c3 => ?_)
      · refine X_iconst dX12_join_24 (by decide) ?_
        exact X_ret (z := (-1)) dX12_join_25 rfl (fun hv => vok_h hv) ⟨rfl, _, (((hB.2 c1).2 c2).1 c3), mr, mf⟩
      · refine X_iload_n dX12_join_16 rfl ?_
        refine X_aload_n dX12_join_17 rfl ?_
        refine X_getfield (ci := 12) (k := 72) (v := vi (M 0 72)) dX12_join_18 rfl (by decide) kf_RX12_461 (congrArg vi (MR.in_ mr (k := 72) (by decide) rfl)) mr.1 ?_
        refine X_icmp_lt dX12_join_21 (tgt := 26) rfl (fun c4 => ?_) (fun c4 => ?_)
        · refine X_aload_n dX12_join_26 rfl ?_
          refine X_getfield (ci := 12) (k := 70) (v := vr (a 70)) dX12_join_27 rfl (by decide) kf_RX12_158 (congrArg vr (MR.ar mr (k := 70) (by decide)).1) mr.1 ?_
          refine X_iload_n dX12_join_30 rfl ?_
          refine X_iaload dX12_join_31 ((MR.ar mr (k := 70) (by decide)).2.1.trans (by decide)) ((((hB.2 c1).2 c2).2 c3).1 c4).1 (lt_eq ((((hB.2 c1).2 c2).2 c3).1 c4).2.1 (MR.ln mr (k := 70) (by decide) (by decide))) ?_
          refine X_top (v := vi (M 70 x1)) (congrArg vi (MR.el mr (k := 70) (by decide) rfl)) ?_
          refine X_aload_n dX12_join_32 rfl ?_
          refine X_getfield (ci := 12) (k := 70) (v := vr (a 70)) dX12_join_33 rfl (by decide) kf_RX12_158 (congrArg vr (MR.ar mr (k := 70) (by decide)).1) mr.1 ?_
          refine X_iload_n dX12_join_36 rfl ?_
          refine X_iaload dX12_join_37 ((MR.ar mr (k := 70) (by decide)).2.1.trans (by decide)) ((((hB.2 c1).2 c2).2 c3).1 c4).2.2.1 (lt_eq ((((hB.2 c1).2 c2).2 c3).1 c4).2.2.2.1 (MR.ln mr (k := 70) (by decide) (by decide))) ?_
          refine X_top (v := vi (M 70 x2)) (congrArg vi (MR.el mr (k := 70) (by decide) rfl)) ?_
          refine X_icmp_ne dX12_join_38 (tgt := 50) rfl (fun c5 => ?_) (fun c5 => ?_)
          · refine X_bipush dX12_join_50 (by decide) (by decide) ?_
            exact X_ret (z := (-4)) dX12_join_52 rfl (fun hv => vok_h hv) ⟨rfl, _, (((((hB.2 c1).2 c2).2 c3).1 c4).2.2.2.2.1 c5), mr, mf⟩
          · refine X_iload_n dX12_join_41 rfl ?_
            refine X_if_lt dX12_join_42 (tgt := 50) rfl (fun c6 => ?_) (fun c6 => ?_)
            · refine X_bipush dX12_join_50 (by decide) (by decide) ?_
              exact X_ret (z := (-4)) dX12_join_52 rfl (fun hv => vok_h hv) ⟨rfl, _, ((((((hB.2 c1).2 c2).2 c3).1 c4).2.2.2.2.2 c5).1 c6), mr, mf⟩
            · refine X_iload_n dX12_join_45 rfl ?_
              refine X_iconst dX12_join_46 (by decide) ?_
              refine X_icmp_le dX12_join_47 (tgt := 53) rfl (fun c7 => ?_) (fun c7 => ?_)
              · refine X_aload_n dX12_join_53 rfl ?_
                refine X_getfield (ci := 12) (k := 72) (v := vi (M 0 72)) dX12_join_54 rfl (by decide) kf_RX12_461 (congrArg vi (MR.in_ mr (k := 72) (by decide) rfl)) mr.1 ?_
                refine X_bipush dX12_join_57 (by decide) (by decide) ?_
                refine X_icmp_ne dX12_join_59 (tgt := 65) rfl (fun c8 => ?_) (fun c8 => ?_)
                · refine X_aload_n dX12_join_65 rfl ?_
                  refine X_getfield (ci := 12) (k := 71) (v := vr (a 71)) dX12_join_66 rfl (by decide) kf_RX12_161 (congrArg vr (MR.ar mr (k := 71) (by decide)).1) mr.1 ?_
                  refine X_iload_n dX12_join_69 rfl ?_
                  refine X_iaload dX12_join_70 ((MR.ar mr (k := 71) (by decide)).2.1.trans (by decide)) ((((hB.2 c1).2 c2).2 c3).1 c4).1 (lt_eq ((((hB.2 c1).2 c2).2 c3).1 c4).2.1 (MR.ln mr (k := 71) (by decide) (by decide))) ?_
                  refine X_top (v := vi (M 71 x1)) (congrArg vi (MR.el mr (k := 71) (by decide) rfl)) ?_
                  refine X_istore dX12_join_71 (by decide) rfl ?_
                  refine X_aload_n dX12_join_73 rfl ?_
                  refine X_getfield (ci := 12) (k := 71) (v := vr (a 71)) dX12_join_74 rfl (by decide) kf_RX12_161 (congrArg vr (MR.ar mr (k := 71) (by decide)).1) mr.1 ?_
                  refine X_iload_n dX12_join_77 rfl ?_
                  refine X_iaload dX12_join_78 ((MR.ar mr (k := 71) (by decide)).2.1.trans (by decide)) ((((hB.2 c1).2 c2).2 c3).1 c4).2.2.1 (lt_eq ((((hB.2 c1).2 c2).2 c3).1 c4).2.2.2.1 (MR.ln mr (k := 71) (by decide) (by decide))) ?_
                  refine X_top (v := vi (M 71 x2)) (congrArg vi (MR.el mr (k := 71) (by decide) rfl)) ?_
                  refine X_istore dX12_join_79 (by decide) rfl ?_
                  refine X_aload_n dX12_join_81 rfl ?_
                  refine X_getfield (ci := 12) (k := 70) (v := vr (a 70)) dX12_join_82 rfl (by decide) kf_RX12_158 (congrArg vr (MR.ar mr (k := 70) (by decide)).1) mr.1 ?_
                  refine X_aload_n dX12_join_85 rfl ?_
                  refine X_getfield (ci := 12) (k := 72) (v := vi (M 0 72)) dX12_join_86 rfl (by decide) kf_RX12_461 (congrArg vi (MR.in_ mr (k := 72) (by decide) rfl)) mr.1 ?_
                  refine X_aload_n dX12_join_89 rfl ?_
                  refine X_getfield (ci := 12) (k := 70) (v := vr (a 70)) dX12_join_90 rfl (by decide) kf_RX12_158 (congrArg vr (MR.ar mr (k := 70) (by decide)).1) mr.1 ?_
                  refine X_iload_n dX12_join_93 rfl ?_
                  refine X_iaload dX12_join_94 ((MR.ar mr (k := 70) (by decide)).2.1.trans (by decide)) ((((hB.2 c1).2 c2).2 c3).1 c4).1 (lt_eq ((((hB.2 c1).2 c2).2 c3).1 c4).2.1 (MR.ln mr (k := 70) (by decide) (by decide))) ?_
                  refine X_top (v := vi (M 70 x1)) (congrArg vi (MR.el mr (k := 70) (by decide) rfl)) ?_
                  refine X_iastore dX12_join_95 ((MR.ar mr (k := 70) (by decide)).2.1.trans (by decide)) ((((((((hB.2 c1).2 c2).2 c3).1 c4).2.2.2.2.2 c5).2 c6).1 c7).1 c8).1 (lt_eq ((((((((hB.2 c1).2 c2).2 c3).1 c4).2.2.2.2.2 c5).2 c6).1 c7).1 c8).2.1 (MR.ln mr (k := 70) (by decide) (by decide))) ?_
                  refine X_aload_n dX12_join_96 rfl ?_
                  refine X_getfield (ci := 12) (k := 71) (v := vr (a 71)) dX12_join_97 rfl (by decide) kf_RX12_161 (congrArg vr (MR.ar (MR.putA mr (k := 70) (j := M 0 72) (z := M 70 x1) (by decide)) (k := 71) (by decide)).1) (MR.putA mr (k := 70) (j := M 0 72) (z := M 70 x1) (by decide)).1 ?_
                  refine X_aload_n dX12_join_100 rfl ?_
                  refine X_getfield (ci := 12) (k := 72) (v := vi (M 0 72)) dX12_join_101 rfl (by decide) kf_RX12_461 (congrArg vi (MR.in_ (MR.putA mr (k := 70) (j := M 0 72) (z := M 70 x1) (by decide)) (k := 72) (by decide) (up_ne (Or.inl (by decide))))) (MR.putA mr (k := 70) (j := M 0 72) (z := M 70 x1) (by decide)).1 ?_
                  refine X_iload_n dX12_join_104 rfl ?_
                  refine X_if_ne dX12_join_105 (tgt := 116) rfl (fun c9 => ?_) (fun c9 => ?_)
                  · refine X_iload_n dX12_join_116 rfl ?_
                    refine X_iconst dX12_join_117 (by decide) ?_
                    refine X_icmp_ne dX12_join_118 (tgt := 129) rfl (fun c10 => ?_) (fun c10 => ?_)
                    · refine X_iload_n dX12_join_129 rfl ?_
                      refine X_iconst dX12_join_130 (by decide) ?_
                      refine X_icmp_ne dX12_join_131 (tgt := 144) rfl (fun c11 => ?_) (fun c11 => ?_)
                      · refine X_iload dX12_join_144 rfl ?_
                        refine X_iload dX12_join_146 rfl ?_
                        refine X_ixor dX12_join_148 ?_
                        refine X_iastore dX12_join_149 ((MR.ar (MR.putA mr (k := 70) (j := M 0 72) (z := M 70 x1) (by decide)) (k := 71) (by decide)).2.1.trans (by decide)) ((((((((hB.2 c1).2 c2).2 c3).1 c4).2.2.2.2.2 c5).2 c6).1 c7).1 c8).1 (lt_eq ((((((((hB.2 c1).2 c2).2 c3).1 c4).2.2.2.2.2 c5).2 c6).1 c7).1 c8).2.1 (MR.ln (MR.putA mr (k := 70) (j := M 0 72) (z := M 70 x1) (by decide)) (k := 71) (by decide) (by decide))) ?_
                        refine X_aload_n dX12_join_150 rfl ?_
                        refine X_dup dX12_join_151 (rv_cat _) ?_
                        refine X_getfield (ci := 12) (k := 72) (v := vi (M 0 72)) dX12_join_152 rfl (by decide) kf_RX12_461 (congrArg vi (MR.in_ (MR.putA (MR.putA mr (k := 70) (j := M 0 72) (z := M 70 x1) (by decide)) (k := 71) (j := M 0 72) (z := bXor (M 71 x1) (M 71 x2)) (by decide)) (k := 72) (by decide) ((up_ne (Or.inl (by decide))).trans (up_ne (Or.inl (by decide)))))) (MR.putA (MR.putA mr (k := 70) (j := M 0 72) (z := M 70 x1) (by decide)) (k := 71) (j := M 0 72) (z := bXor (M 71 x1) (M 71 x2)) (by decide)).1 ?_
                        refine X_iconst dX12_join_155 (by decide) ?_
                        refine X_iaddN dX12_join_156 (((((((((((hB.2 c1).2 c2).2 c3).1 c4).2.2.2.2.2 c5).2 c6).1 c7).1 c8).2.2.1 c9).1 c10).1 c11).1 (((((((((((hB.2 c1).2 c2).2 c3).1 c4).2.2.2.2.2 c5).2 c6).1 c7).1 c8).2.2.1 c9).1 c10).1 c11).2.1 ?_
                        refine X_putfield (ci := 12) (k := 72) (z := ((M 0 72) + 1)) dX12_join_157 rfl (by decide) kf_RX12_461 (Or.inl rfl) (Or.inl rfl) rfl (fun hv => hv) (MR.putA (MR.putA mr (k := 70) (j := M 0 72) (z := M 70 x1) (by decide)) (k := 71) (j := M 0 72) (z := bXor (M 71 x1) (M 71 x2)) (by decide)).1 ?_
                        refine X_aload_n dX12_join_160 rfl ?_
                        refine X_getfield (ci := 12) (k := 72) (v := vi ((M 0 72) + 1)) dX12_join_161 rfl (by decide) kf_RX12_461 (congrArg vi (MR.in_ (MR.putI (MR.putA (MR.putA mr (k := 70) (j := M 0 72) (z := M 70 x1) (by decide)) (k := 71) (j := M 0 72) (z := bXor (M 71 x1) (M 71 x2)) (by decide)) (k := 72) (z := (M 0 72) + 1) (by decide)) (k := 72) (by decide) (up_eq))) (MR.putI (MR.putA (MR.putA mr (k := 70) (j := M 0 72) (z := M 70 x1) (by decide)) (k := 71) (j := M 0 72) (z := bXor (M 71 x1) (M 71 x2)) (by decide)) (k := 72) (z := (M 0 72) + 1) (by decide)).1 ?_
                        refine X_iconst dX12_join_164 (by decide) ?_
                        refine X_isubN dX12_join_165 (((((((((((hB.2 c1).2 c2).2 c3).1 c4).2.2.2.2.2 c5).2 c6).1 c7).1 c8).2.2.1 c9).1 c10).1 c11).2.2.1 (((((((((((hB.2 c1).2 c2).2 c3).1 c4).2.2.2.2.2 c5).2 c6).1 c7).1 c8).2.2.1 c9).1 c10).1 c11).2.2.2.1 ?_
                        exact X_ret (z := (((M 0 72) + 1) - 1)) dX12_join_166 rfl (fun hv => vok_h hv) ⟨rfl, _, (((((((((((hB.2 c1).2 c2).2 c3).1 c4).2.2.2.2.2 c5).2 c6).1 c7).1 c8).2.2.1 c9).1 c10).1 c11).2.2.2.2, (MR.putI (MR.putA (MR.putA mr (k := 70) (j := M 0 72) (z := M 70 x1) (by decide)) (k := 71) (j := M 0 72) (z := bXor (M 71 x1) (M 71 x2)) (by decide)) (k := 72) (z := (M 0 72) + 1) (by decide)), (MF.putI (MF.putA (MF.putA mf (k := 70) (j := M 0 72) (z := M 70 x1) (by decide)) (k := 71) (j := M 0 72) (z := bXor (M 71 x1) (M 71 x2)) (by decide)) (k := 72) (z := (M 0 72) + 1))⟩
                      · refine X_iload dX12_join_134 rfl ?_
                        refine X_iload dX12_join_136 rfl ?_
                        refine X_iconst dX12_join_138 (by decide) ?_
                        refine X_ixor dX12_join_139 ?_
                        refine X_iand dX12_join_140 ?_
                        refine X_goto dX12_join_141 (tgt := 149) rfl ?_
                        refine X_iastore dX12_join_149 ((MR.ar (MR.putA mr (k := 70) (j := M 0 72) (z := M 70 x1) (by decide)) (k := 71) (by decide)).2.1.trans (by decide)) ((((((((hB.2 c1).2 c2).2 c3).1 c4).2.2.2.2.2 c5).2 c6).1 c7).1 c8).1 (lt_eq ((((((((hB.2 c1).2 c2).2 c3).1 c4).2.2.2.2.2 c5).2 c6).1 c7).1 c8).2.1 (MR.ln (MR.putA mr (k := 70) (j := M 0 72) (z := M 70 x1) (by decide)) (k := 71) (by decide) (by decide))) ?_
                        refine X_aload_n dX12_join_150 rfl ?_
                        refine X_dup dX12_join_151 (rv_cat _) ?_
                        refine X_getfield (ci := 12) (k := 72) (v := vi (M 0 72)) dX12_join_152 rfl (by decide) kf_RX12_461 (congrArg vi (MR.in_ (MR.putA (MR.putA mr (k := 70) (j := M 0 72) (z := M 70 x1) (by decide)) (k := 71) (j := M 0 72) (z := bAnd (M 71 x1) (bXor (M 71 x2) (-1))) (by decide)) (k := 72) (by decide) ((up_ne (Or.inl (by decide))).trans (up_ne (Or.inl (by decide)))))) (MR.putA (MR.putA mr (k := 70) (j := M 0 72) (z := M 70 x1) (by decide)) (k := 71) (j := M 0 72) (z := bAnd (M 71 x1) (bXor (M 71 x2) (-1))) (by decide)).1 ?_
                        refine X_iconst dX12_join_155 (by decide) ?_
                        refine X_iaddN dX12_join_156 (((((((((((hB.2 c1).2 c2).2 c3).1 c4).2.2.2.2.2 c5).2 c6).1 c7).1 c8).2.2.1 c9).1 c10).2 c11).1 (((((((((((hB.2 c1).2 c2).2 c3).1 c4).2.2.2.2.2 c5).2 c6).1 c7).1 c8).2.2.1 c9).1 c10).2 c11).2.1 ?_
                        refine X_putfield (ci := 12) (k := 72) (z := ((M 0 72) + 1)) dX12_join_157 rfl (by decide) kf_RX12_461 (Or.inl rfl) (Or.inl rfl) rfl (fun hv => hv) (MR.putA (MR.putA mr (k := 70) (j := M 0 72) (z := M 70 x1) (by decide)) (k := 71) (j := M 0 72) (z := bAnd (M 71 x1) (bXor (M 71 x2) (-1))) (by decide)).1 ?_
                        refine X_aload_n dX12_join_160 rfl ?_
                        refine X_getfield (ci := 12) (k := 72) (v := vi ((M 0 72) + 1)) dX12_join_161 rfl (by decide) kf_RX12_461 (congrArg vi (MR.in_ (MR.putI (MR.putA (MR.putA mr (k := 70) (j := M 0 72) (z := M 70 x1) (by decide)) (k := 71) (j := M 0 72) (z := bAnd (M 71 x1) (bXor (M 71 x2) (-1))) (by decide)) (k := 72) (z := (M 0 72) + 1) (by decide)) (k := 72) (by decide) (up_eq))) (MR.putI (MR.putA (MR.putA mr (k := 70) (j := M 0 72) (z := M 70 x1) (by decide)) (k := 71) (j := M 0 72) (z := bAnd (M 71 x1) (bXor (M 71 x2) (-1))) (by decide)) (k := 72) (z := (M 0 72) + 1) (by decide)).1 ?_
                        refine X_iconst dX12_join_164 (by decide) ?_
                        refine X_isubN dX12_join_165 (((((((((((hB.2 c1).2 c2).2 c3).1 c4).2.2.2.2.2 c5).2 c6).1 c7).1 c8).2.2.1 c9).1 c10).2 c11).2.2.1 (((((((((((hB.2 c1).2 c2).2 c3).1 c4).2.2.2.2.2 c5).2 c6).1 c7).1 c8).2.2.1 c9).1 c10).2 c11).2.2.2.1 ?_
                        exact X_ret (z := (((M 0 72) + 1) - 1)) dX12_join_166 rfl (fun hv => vok_h hv) ⟨rfl, _, (((((((((((hB.2 c1).2 c2).2 c3).1 c4).2.2.2.2.2 c5).2 c6).1 c7).1 c8).2.2.1 c9).1 c10).2 c11).2.2.2.2, (MR.putI (MR.putA (MR.putA mr (k := 70) (j := M 0 72) (z := M 70 x1) (by decide)) (k := 71) (j := M 0 72) (z := bAnd (M 71 x1) (bXor (M 71 x2) (-1))) (by decide)) (k := 72) (z := (M 0 72) + 1) (by decide)), (MF.putI (MF.putA (MF.putA mf (k := 70) (j := M 0 72) (z := M 70 x1) (by decide)) (k := 71) (j := M 0 72) (z := bAnd (M 71 x1) (bXor (M 71 x2) (-1))) (by decide)) (k := 72) (z := (M 0 72) + 1))⟩
                    · refine X_iload dX12_join_121 rfl ?_
                      refine X_iload dX12_join_123 rfl ?_
                      refine X_iand dX12_join_125 ?_
                      refine X_goto dX12_join_126 (tgt := 149) rfl ?_
                      refine X_iastore dX12_join_149 ((MR.ar (MR.putA mr (k := 70) (j := M 0 72) (z := M 70 x1) (by decide)) (k := 71) (by decide)).2.1.trans (by decide)) ((((((((hB.2 c1).2 c2).2 c3).1 c4).2.2.2.2.2 c5).2 c6).1 c7).1 c8).1 (lt_eq ((((((((hB.2 c1).2 c2).2 c3).1 c4).2.2.2.2.2 c5).2 c6).1 c7).1 c8).2.1 (MR.ln (MR.putA mr (k := 70) (j := M 0 72) (z := M 70 x1) (by decide)) (k := 71) (by decide) (by decide))) ?_
                      refine X_aload_n dX12_join_150 rfl ?_
                      refine X_dup dX12_join_151 (rv_cat _) ?_
                      refine X_getfield (ci := 12) (k := 72) (v := vi (M 0 72)) dX12_join_152 rfl (by decide) kf_RX12_461 (congrArg vi (MR.in_ (MR.putA (MR.putA mr (k := 70) (j := M 0 72) (z := M 70 x1) (by decide)) (k := 71) (j := M 0 72) (z := bAnd (M 71 x1) (M 71 x2)) (by decide)) (k := 72) (by decide) ((up_ne (Or.inl (by decide))).trans (up_ne (Or.inl (by decide)))))) (MR.putA (MR.putA mr (k := 70) (j := M 0 72) (z := M 70 x1) (by decide)) (k := 71) (j := M 0 72) (z := bAnd (M 71 x1) (M 71 x2)) (by decide)).1 ?_
                      refine X_iconst dX12_join_155 (by decide) ?_
                      refine X_iaddN dX12_join_156 ((((((((((hB.2 c1).2 c2).2 c3).1 c4).2.2.2.2.2 c5).2 c6).1 c7).1 c8).2.2.1 c9).2 c10).1 ((((((((((hB.2 c1).2 c2).2 c3).1 c4).2.2.2.2.2 c5).2 c6).1 c7).1 c8).2.2.1 c9).2 c10).2.1 ?_
                      refine X_putfield (ci := 12) (k := 72) (z := ((M 0 72) + 1)) dX12_join_157 rfl (by decide) kf_RX12_461 (Or.inl rfl) (Or.inl rfl) rfl (fun hv => hv) (MR.putA (MR.putA mr (k := 70) (j := M 0 72) (z := M 70 x1) (by decide)) (k := 71) (j := M 0 72) (z := bAnd (M 71 x1) (M 71 x2)) (by decide)).1 ?_
                      refine X_aload_n dX12_join_160 rfl ?_
                      refine X_getfield (ci := 12) (k := 72) (v := vi ((M 0 72) + 1)) dX12_join_161 rfl (by decide) kf_RX12_461 (congrArg vi (MR.in_ (MR.putI (MR.putA (MR.putA mr (k := 70) (j := M 0 72) (z := M 70 x1) (by decide)) (k := 71) (j := M 0 72) (z := bAnd (M 71 x1) (M 71 x2)) (by decide)) (k := 72) (z := (M 0 72) + 1) (by decide)) (k := 72) (by decide) (up_eq))) (MR.putI (MR.putA (MR.putA mr (k := 70) (j := M 0 72) (z := M 70 x1) (by decide)) (k := 71) (j := M 0 72) (z := bAnd (M 71 x1) (M 71 x2)) (by decide)) (k := 72) (z := (M 0 72) + 1) (by decide)).1 ?_
                      refine X_iconst dX12_join_164 (by decide) ?_
                      refine X_isubN dX12_join_165 ((((((((((hB.2 c1).2 c2).2 c3).1 c4).2.2.2.2.2 c5).2 c6).1 c7).1 c8).2.2.1 c9).2 c10).2.2.1 ((((((((((hB.2 c1).2 c2).2 c3).1 c4).2.2.2.2.2 c5).2 c6).1 c7).1 c8).2.2.1 c9).2 c10).2.2.2.1 ?_
                      exact X_ret (z := (((M 0 72) + 1) - 1)) dX12_join_166 rfl (fun hv => vok_h hv) ⟨rfl, _, ((((((((((hB.2 c1).2 c2).2 c3).1 c4).2.2.2.2.2 c5).2 c6).1 c7).1 c8).2.2.1 c9).2 c10).2.2.2.2, (MR.putI (MR.putA (MR.putA mr (k := 70) (j := M 0 72) (z := M 70 x1) (by decide)) (k := 71) (j := M 0 72) (z := bAnd (M 71 x1) (M 71 x2)) (by decide)) (k := 72) (z := (M 0 72) + 1) (by decide)), (MF.putI (MF.putA (MF.putA mf (k := 70) (j := M 0 72) (z := M 70 x1) (by decide)) (k := 71) (j := M 0 72) (z := bAnd (M 71 x1) (M 71 x2)) (by decide)) (k := 72) (z := (M 0 72) + 1))⟩
                  · refine X_iload dX12_join_108 rfl ?_
                    refine X_iload dX12_join_110 rfl ?_
                    refine X_ior dX12_join_112 ?_
                    refine X_goto dX12_join_113 (tgt := 149) rfl ?_
                    refine X_iastore dX12_join_149 ((MR.ar (MR.putA mr (k := 70) (j := M 0 72) (z := M 70 x1) (by decide)) (k := 71) (by decide)).2.1.trans (by decide)) ((((((((hB.2 c1).2 c2).2 c3).1 c4).2.2.2.2.2 c5).2 c6).1 c7).1 c8).1 (lt_eq ((((((((hB.2 c1).2 c2).2 c3).1 c4).2.2.2.2.2 c5).2 c6).1 c7).1 c8).2.1 (MR.ln (MR.putA mr (k := 70) (j := M 0 72) (z := M 70 x1) (by decide)) (k := 71) (by decide) (by decide))) ?_
                    refine X_aload_n dX12_join_150 rfl ?_
                    refine X_dup dX12_join_151 (rv_cat _) ?_
                    refine X_getfield (ci := 12) (k := 72) (v := vi (M 0 72)) dX12_join_152 rfl (by decide) kf_RX12_461 (congrArg vi (MR.in_ (MR.putA (MR.putA mr (k := 70) (j := M 0 72) (z := M 70 x1) (by decide)) (k := 71) (j := M 0 72) (z := bOr (M 71 x1) (M 71 x2)) (by decide)) (k := 72) (by decide) ((up_ne (Or.inl (by decide))).trans (up_ne (Or.inl (by decide)))))) (MR.putA (MR.putA mr (k := 70) (j := M 0 72) (z := M 70 x1) (by decide)) (k := 71) (j := M 0 72) (z := bOr (M 71 x1) (M 71 x2)) (by decide)).1 ?_
                    refine X_iconst dX12_join_155 (by decide) ?_
                    refine X_iaddN dX12_join_156 (((((((((hB.2 c1).2 c2).2 c3).1 c4).2.2.2.2.2 c5).2 c6).1 c7).1 c8).2.2.2 c9).1 (((((((((hB.2 c1).2 c2).2 c3).1 c4).2.2.2.2.2 c5).2 c6).1 c7).1 c8).2.2.2 c9).2.1 ?_
                    refine X_putfield (ci := 12) (k := 72) (z := ((M 0 72) + 1)) dX12_join_157 rfl (by decide) kf_RX12_461 (Or.inl rfl) (Or.inl rfl) rfl (fun hv => hv) (MR.putA (MR.putA mr (k := 70) (j := M 0 72) (z := M 70 x1) (by decide)) (k := 71) (j := M 0 72) (z := bOr (M 71 x1) (M 71 x2)) (by decide)).1 ?_
                    refine X_aload_n dX12_join_160 rfl ?_
                    refine X_getfield (ci := 12) (k := 72) (v := vi ((M 0 72) + 1)) dX12_join_161 rfl (by decide) kf_RX12_461 (congrArg vi (MR.in_ (MR.putI (MR.putA (MR.putA mr (k := 70) (j := M 0 72) (z := M 70 x1) (by decide)) (k := 71) (j := M 0 72) (z := bOr (M 71 x1) (M 71 x2)) (by decide)) (k := 72) (z := (M 0 72) + 1) (by decide)) (k := 72) (by decide) (up_eq))) (MR.putI (MR.putA (MR.putA mr (k := 70) (j := M 0 72) (z := M 70 x1) (by decide)) (k := 71) (j := M 0 72) (z := bOr (M 71 x1) (M 71 x2)) (by decide)) (k := 72) (z := (M 0 72) + 1) (by decide)).1 ?_
                    refine X_iconst dX12_join_164 (by decide) ?_
                    refine X_isubN dX12_join_165 (((((((((hB.2 c1).2 c2).2 c3).1 c4).2.2.2.2.2 c5).2 c6).1 c7).1 c8).2.2.2 c9).2.2.1 (((((((((hB.2 c1).2 c2).2 c3).1 c4).2.2.2.2.2 c5).2 c6).1 c7).1 c8).2.2.2 c9).2.2.2.1 ?_
                    exact X_ret (z := (((M 0 72) + 1) - 1)) dX12_join_166 rfl (fun hv => vok_h hv) ⟨rfl, _, (((((((((hB.2 c1).2 c2).2 c3).1 c4).2.2.2.2.2 c5).2 c6).1 c7).1 c8).2.2.2 c9).2.2.2.2, (MR.putI (MR.putA (MR.putA mr (k := 70) (j := M 0 72) (z := M 70 x1) (by decide)) (k := 71) (j := M 0 72) (z := bOr (M 71 x1) (M 71 x2)) (by decide)) (k := 72) (z := (M 0 72) + 1) (by decide)), (MF.putI (MF.putA (MF.putA mf (k := 70) (j := M 0 72) (z := M 70 x1) (by decide)) (k := 71) (j := M 0 72) (z := bOr (M 71 x1) (M 71 x2)) (by decide)) (k := 72) (z := (M 0 72) + 1))⟩
                · refine X_bipush dX12_join_62 (by decide) (by decide) ?_
                  exact X_ret (z := (-2)) dX12_join_64 rfl (fun hv => vok_h hv) ⟨rfl, _, ((((((((hB.2 c1).2 c2).2 c3).1 c4).2.2.2.2.2 c5).2 c6).1 c7).2 c8), mr, mf⟩
              · refine X_bipush dX12_join_50 (by decide) (by decide) ?_
                exact X_ret (z := (-4)) dX12_join_52 rfl (fun hv => vok_h hv) ⟨rfl, _, (((((((hB.2 c1).2 c2).2 c3).1 c4).2.2.2.2.2 c5).2 c6).2 c7), mr, mf⟩
        · refine X_iconst dX12_join_24 (by decide) ?_
          exact X_ret (z := (-1)) dX12_join_25 rfl (fun hv => vok_h hv) ⟨rfl, _, ((((hB.2 c1).2 c2).2 c3).2 c4), mr, mf⟩
def B_member_0 (rc : MP) (cl : MC) (Q : Int → Mem → Prop) (d : Nat) (x1 x2 : Int) (M : Mem) : Prop := (x1 < 0 → Q (-1) M) ∧ (¬ (x1 < 0) → ((M 0 72) ≤ x1 → Q (-1) M) ∧ (¬ ((M 0 72) ≤ x1) → ((-1) ≤ x2 → rc n_member_24 [x1, x2, 0, 0] M) ∧ (¬ ((-1) ≤ x2) → Q (-1) M)))
set_option maxRecDepth 10000 in
theorem s_member_0 {l : Launch} {G : GT} {m : Int} {a : Int → Int} {d mc ms : Nat} {S : Sh} {Q : Int → Mem → Prop} {rc : MP} {cl : MC} {V0 V M : Mem} {x1 x2 : Int} (hrc : RCok l G m a S V0 Q d mc ms rc) (hcl : CLok l G m a S d cl) (mr : MR m a S V M) (mf : MF m a V0 V) (hB : B_member_0 rc cl Q d x1 x2 M) : XJ l G bX12_member (Qm m a S V0 Q) (d + 1) 0 [vr m, vi x1, vi x2, vu, vu] [] S V mc ms := by
  unfold B_member_0 at hB
  refine X_iload_n dX12_member_0 rfl ?_
  refine X_if_lt dX12_member_1 (tgt := 17) rfl (fun c1 => ?_) (fun c1 => ?_)
  · refine X_iconst dX12_member_17 (by decide) ?_
    exact X_ret (z := (-1)) dX12_member_18 rfl (fun hv => vok_h hv) ⟨rfl, _, (hB.1 c1), mr, mf⟩
  · refine X_iload_n dX12_member_4 rfl ?_
    refine X_aload_n dX12_member_5 rfl ?_
    refine X_getfield (ci := 12) (k := 72) (v := vi (M 0 72)) dX12_member_6 rfl (by decide) kf_RX12_461 (congrArg vi (MR.in_ mr (k := 72) (by decide) rfl)) mr.1 ?_
    refine X_icmp_ge dX12_member_9 (tgt := 17) rfl (fun c2 => ?_) (fun c2 => ?_)
    · refine X_iconst dX12_member_17 (by decide) ?_
      exact X_ret (z := (-1)) dX12_member_18 rfl (fun hv => vok_h hv) ⟨rfl, _, ((hB.2 c1).1 c2), mr, mf⟩
    · refine X_iload_n dX12_member_12 rfl ?_
      refine X_iconst dX12_member_13 (by decide) ?_
      refine X_icmp_ge dX12_member_14 (tgt := 19) rfl (fun c3 => ?_) (fun c3 => ?_)
      · refine X_iconst dX12_member_19 (by decide) ?_
        refine X_istore_n dX12_member_20 (by decide) rfl ?_
        refine X_iconst dX12_member_21 (by decide) ?_
        refine X_istore dX12_member_22 (by decide) rfl ?_
        exact hrc n_member_24 [x1, x2, 0, 0] _ _ (((hB.2 c1).2 c2).1 c3) mr mf
      · refine X_iconst dX12_member_17 (by decide) ?_
        exact X_ret (z := (-1)) dX12_member_18 rfl (fun hv => vok_h hv) ⟨rfl, _, (((hB.2 c1).2 c2).2 c3), mr, mf⟩
def B_member_24 (rc : MP) (cl : MC) (Q : Int → Mem → Prop) (d : Nat) (x1 x2 x3 x4 : Int) (M : Mem) : Prop := (24 ≤ x4 → (x2 ≠ (-1) → Q (-1) M) ∧ (¬ (x2 ≠ (-1)) → Q x3 M)) ∧ (¬ (24 ≤ x4) → 0 ≤ x1 ∧ x1 < 40 ∧ ((bAnd (bShr (M 71 x1) x4) 1) ≠ 0 → (x3 ≠ x2 → -2147483648 ≤ x3 + 1 ∧ x3 + 1 ≤ 2147483647 ∧ -2147483648 ≤ x4 + 1 ∧ x4 + 1 ≤ 2147483647 ∧ rc n_member_24 [x1, x2, x3 + 1, x4 + 1] M) ∧ (¬ (x3 ≠ x2) → Q x4 M)) ∧ (¬ ((bAnd (bShr (M 71 x1) x4) 1) ≠ 0) → -2147483648 ≤ x4 + 1 ∧ x4 + 1 ≤ 2147483647 ∧ rc n_member_24 [x1, x2, x3, x4 + 1] M))
set_option maxRecDepth 10000 in
theorem s_member_24 {l : Launch} {G : GT} {m : Int} {a : Int → Int} {d mc ms : Nat} {S : Sh} {Q : Int → Mem → Prop} {rc : MP} {cl : MC} {V0 V M : Mem} {x1 x2 x3 x4 : Int} (hrc : RCok l G m a S V0 Q d mc ms rc) (hcl : CLok l G m a S d cl) (mr : MR m a S V M) (mf : MF m a V0 V) (hB : B_member_24 rc cl Q d x1 x2 x3 x4 M) : XJ l G bX12_member (Qm m a S V0 Q) (d + 1) 24 [vr m, vi x1, vi x2, vi x3, vi x4] [] S V mc ms := by
  unfold B_member_24 at hB
  refine X_iload dX12_member_24 rfl ?_
  refine X_bipush dX12_member_26 (by decide) (by decide) ?_
  refine X_icmp_ge dX12_member_28 (tgt := 65) rfl (fun c1 => ?_) (fun c1 => ?_)
  · refine X_iload_n dX12_member_65 rfl ?_
    refine X_iconst dX12_member_66 (by decide) ?_
    refine X_icmp_ne dX12_member_67 (tgt := 74) rfl (fun c2 => ?_) (fun c2 => ?_)
    · refine X_iconst dX12_member_74 (by decide) ?_
      exact X_ret (z := (-1)) dX12_member_75 rfl (fun hv => vok_h hv) ⟨rfl, _, ((hB.1 c1).1 c2), mr, mf⟩
    · refine X_iload_n dX12_member_70 rfl ?_
      refine X_goto dX12_member_71 (tgt := 75) rfl ?_
      exact X_ret (z := x3) dX12_member_75 rfl (fun hv => vok_h hv) ⟨rfl, _, ((hB.1 c1).2 c2), mr, mf⟩
  · refine X_aload_n dX12_member_31 rfl ?_
    refine X_getfield (ci := 12) (k := 71) (v := vr (a 71)) dX12_member_32 rfl (by decide) kf_RX12_161 (congrArg vr (MR.ar mr (k := 71) (by decide)).1) mr.1 ?_
    refine X_iload_n dX12_member_35 rfl ?_
    refine X_iaload dX12_member_36 ((MR.ar mr (k := 71) (by decide)).2.1.trans (by decide)) (hB.2 c1).1 (lt_eq (hB.2 c1).2.1 (MR.ln mr (k := 71) (by decide) (by decide))) ?_
    refine X_top (v := vi (M 71 x1)) (congrArg vi (MR.el mr (k := 71) (by decide) rfl)) ?_
    refine X_iload dX12_member_37 rfl ?_
    refine X_ishr dX12_member_39 ?_
    refine X_iconst dX12_member_40 (by decide) ?_
    refine X_iand dX12_member_41 ?_
    refine X_if_ne dX12_member_42 (tgt := 48) rfl (fun c3 => ?_) (fun c3 => ?_)
    · refine X_iload_n dX12_member_48 rfl ?_
      refine X_iload_n dX12_member_49 rfl ?_
      refine X_icmp_ne dX12_member_50 (tgt := 56) rfl (fun c4 => ?_) (fun c4 => ?_)
      · refine X_iincN dX12_member_56 rfl (by decide) rfl (e := x3 + 1) rfl (((hB.2 c1).2.2.1 c3).1 c4).1 (((hB.2 c1).2.2.1 c3).1 c4).2.1 ?_
        refine X_iincN dX12_member_59 rfl (by decide) rfl (e := x4 + 1) rfl (((hB.2 c1).2.2.1 c3).1 c4).2.2.1 (((hB.2 c1).2.2.1 c3).1 c4).2.2.2.1 ?_
        refine X_goto dX12_member_62 (tgt := 24) rfl ?_
        exact hrc n_member_24 [x1, x2, x3 + 1, x4 + 1] _ _ (((hB.2 c1).2.2.1 c3).1 c4).2.2.2.2 mr mf
      · refine X_iload dX12_member_53 rfl ?_
        exact X_ret (z := x4) dX12_member_55 rfl (fun hv => vok_h hv) ⟨rfl, _, (((hB.2 c1).2.2.1 c3).2 c4), mr, mf⟩
    · refine X_goto dX12_member_45 (tgt := 59) rfl ?_
      refine X_iincN dX12_member_59 rfl (by decide) rfl (e := x4 + 1) rfl ((hB.2 c1).2.2.2 c3).1 ((hB.2 c1).2.2.2 c3).2.1 ?_
      refine X_goto dX12_member_62 (tgt := 24) rfl ?_
      exact hrc n_member_24 [x1, x2, x3, x4 + 1] _ _ ((hB.2 c1).2.2.2 c3).2.2 mr mf
def B_map_0 (rc : MP) (cl : MC) (Q : Int → Mem → Prop) (d : Nat) (x1 x2 : Int) (M : Mem) : Prop := cl n_isEnum_0 [x1, x2] M (fun z1 M1 => (z1 ≠ 0 → ((M1 0 76) ≠ 10 → cl n_uses_0 [x1, x2] M1 (fun z5 M5 => (z5 ≠ (-3) → -2147483648 ≤ 12 * x1 ∧ 12 * x1 ≤ 2147483647 ∧ -2147483648 ≤ (12 * x1) + x2 ∧ (12 * x1) + x2 ≤ 2147483647 ∧ 0 ≤ (M5 0 76) ∧ (M5 0 76) < 10 ∧ -2147483648 ≤ (M5 0 76) + 1 ∧ (M5 0 76) + 1 ≤ 2147483647 ∧ -2147483648 ≤ ((M5 0 76) + 1) - 1 ∧ ((M5 0 76) + 1) - 1 ≤ 2147483647 ∧ Q (((M5 0 76) + 1) - 1) (up (up (up M5 73 (M5 0 76) ((12 * x1) + x2)) 74 (M5 0 76) 0) 0 76 ((M5 0 76) + 1))) ∧ (¬ (z5 ≠ (-3)) → Q (-3) M5))) ∧ (¬ ((M1 0 76) ≠ 10) → Q (-2) M1)) ∧ (¬ (z1 ≠ 0) → Q (-1) M1))
set_option maxRecDepth 10000 in
theorem s_map_0 {l : Launch} {G : GT} {m : Int} {a : Int → Int} {d mc ms : Nat} {S : Sh} {Q : Int → Mem → Prop} {rc : MP} {cl : MC} {V0 V M : Mem} {x1 x2 : Int} (hrc : RCok l G m a S V0 Q d mc ms rc) (hcl : CLok l G m a S d cl) (mr : MR m a S V M) (mf : MF m a V0 V) (hB : B_map_0 rc cl Q d x1 x2 M) : XJ l G bX12_map (Qm m a S V0 Q) (d + 1) 0 [vr m, vi x1, vi x2] [] S V mc ms := by
  unfold B_map_0 at hB
  refine X_aload_n dX12_map_0 rfl ?_
  refine X_iload_n dX12_map_1 rfl ?_
  refine X_iload_n dX12_map_2 rfl ?_
  refine X_invV (ci := 12) (as := [vi x1, vi x2]) (st := []) okX12_isEnum dX12_map_3 km_RX12_439 rfl rfl (Nat.le_of_ble_eq_true rfl) rfl rfl mr.1 (CT.of d 0 0 (hcl n_isEnum_0 rfl [x1, x2] _ _ _ hB mr) (Nat.le_refl _) (Nat.zero_le _) (Nat.zero_le _) (fun z1 S1 V1 hq1 => ?_))
  obtain ⟨rfl, M1, hc2, mr1, hf1⟩ := hq1
  have mf1 := MF.trans mf hf1
  refine X_if_ne dX12_map_6 (tgt := 11) rfl (fun c3 => ?_) (fun c3 => ?_)
  · refine X_aload_n dX12_map_11 rfl ?_
    refine X_getfield (ci := 12) (k := 76) (v := vi (M1 0 76)) dX12_map_12 rfl (by decide) kf_RX12_467 (congrArg vi (MR.in_ mr1 (k := 76) (by decide) rfl)) mr1.1 ?_
    refine X_bipush dX12_map_15 (by decide) (by decide) ?_
    refine X_icmp_ne dX12_map_17 (tgt := 23) rfl (fun c4 => ?_) (fun c4 => ?_)
    · refine X_aload_n dX12_map_23 rfl ?_
      refine X_iload_n dX12_map_24 rfl ?_
      refine X_iload_n dX12_map_25 rfl ?_
      refine X_invV (ci := 12) (as := [vi x1, vi x2]) (st := []) okX12_uses dX12_map_26 km_RX12_455 rfl rfl (Nat.le_of_ble_eq_true rfl) rfl rfl mr1.1 (CT.of d 0 0 (hcl n_uses_0 rfl [x1, x2] _ _ _ ((hc2.1 c3).1 c4) mr1) (Nat.le_refl _) (Nat.zero_le _) (Nat.zero_le _) (fun z5 S5 V5 hq5 => ?_))
      obtain ⟨rfl, M5, hc6, mr5, hf5⟩ := hq5
      have mf5 := MF.trans mf1 hf5
      refine X_bipush dX12_map_29 (by decide) (by decide) ?_
      refine X_icmp_ne dX12_map_31 (tgt := 37) rfl (fun c7 => ?_) (fun c7 => ?_)
      · refine X_aload_n dX12_map_37 rfl ?_
        refine X_getfield (ci := 12) (k := 73) (v := vr (a 73)) dX12_map_38 rfl (by decide) kf_RX12_164 (congrArg vr (MR.ar mr5 (k := 73) (by decide)).1) mr5.1 ?_
        refine X_aload_n dX12_map_41 rfl ?_
        refine X_getfield (ci := 12) (k := 76) (v := vi (M5 0 76)) dX12_map_42 rfl (by decide) kf_RX12_467 (congrArg vi (MR.in_ mr5 (k := 76) (by decide) rfl)) mr5.1 ?_
        refine X_bipush dX12_map_45 (by decide) (by decide) ?_
        refine X_iload_n dX12_map_47 rfl ?_
        refine X_imulN dX12_map_48 (hc6.1 c7).1 (hc6.1 c7).2.1 ?_
        refine X_iload_n dX12_map_49 rfl ?_
        refine X_iaddN dX12_map_50 (hc6.1 c7).2.2.1 (hc6.1 c7).2.2.2.1 ?_
        refine X_iastore dX12_map_51 ((MR.ar mr5 (k := 73) (by decide)).2.1.trans (by decide)) (hc6.1 c7).2.2.2.2.1 (lt_eq (hc6.1 c7).2.2.2.2.2.1 (MR.ln mr5 (k := 73) (by decide) (by decide))) ?_
        refine X_aload_n dX12_map_52 rfl ?_
        refine X_getfield (ci := 12) (k := 74) (v := vr (a 74)) dX12_map_53 rfl (by decide) kf_RX12_167 (congrArg vr (MR.ar (MR.putA mr5 (k := 73) (j := M5 0 76) (z := (12 * x1) + x2) (by decide)) (k := 74) (by decide)).1) (MR.putA mr5 (k := 73) (j := M5 0 76) (z := (12 * x1) + x2) (by decide)).1 ?_
        refine X_aload_n dX12_map_56 rfl ?_
        refine X_getfield (ci := 12) (k := 76) (v := vi (M5 0 76)) dX12_map_57 rfl (by decide) kf_RX12_467 (congrArg vi (MR.in_ (MR.putA mr5 (k := 73) (j := M5 0 76) (z := (12 * x1) + x2) (by decide)) (k := 76) (by decide) (up_ne (Or.inl (by decide))))) (MR.putA mr5 (k := 73) (j := M5 0 76) (z := (12 * x1) + x2) (by decide)).1 ?_
        refine X_iconst dX12_map_60 (by decide) ?_
        refine X_iastore dX12_map_61 ((MR.ar (MR.putA mr5 (k := 73) (j := M5 0 76) (z := (12 * x1) + x2) (by decide)) (k := 74) (by decide)).2.1.trans (by decide)) (hc6.1 c7).2.2.2.2.1 (lt_eq (hc6.1 c7).2.2.2.2.2.1 (MR.ln (MR.putA mr5 (k := 73) (j := M5 0 76) (z := (12 * x1) + x2) (by decide)) (k := 74) (by decide) (by decide))) ?_
        refine X_aload_n dX12_map_62 rfl ?_
        refine X_dup dX12_map_63 (rv_cat _) ?_
        refine X_getfield (ci := 12) (k := 76) (v := vi (M5 0 76)) dX12_map_64 rfl (by decide) kf_RX12_467 (congrArg vi (MR.in_ (MR.putA (MR.putA mr5 (k := 73) (j := M5 0 76) (z := (12 * x1) + x2) (by decide)) (k := 74) (j := M5 0 76) (z := 0) (by decide)) (k := 76) (by decide) ((up_ne (Or.inl (by decide))).trans (up_ne (Or.inl (by decide)))))) (MR.putA (MR.putA mr5 (k := 73) (j := M5 0 76) (z := (12 * x1) + x2) (by decide)) (k := 74) (j := M5 0 76) (z := 0) (by decide)).1 ?_
        refine X_iconst dX12_map_67 (by decide) ?_
        refine X_iaddN dX12_map_68 (hc6.1 c7).2.2.2.2.2.2.1 (hc6.1 c7).2.2.2.2.2.2.2.1 ?_
        refine X_putfield (ci := 12) (k := 76) (z := ((M5 0 76) + 1)) dX12_map_69 rfl (by decide) kf_RX12_467 (Or.inl rfl) (Or.inl rfl) rfl (fun hv => hv) (MR.putA (MR.putA mr5 (k := 73) (j := M5 0 76) (z := (12 * x1) + x2) (by decide)) (k := 74) (j := M5 0 76) (z := 0) (by decide)).1 ?_
        refine X_aload_n dX12_map_72 rfl ?_
        refine X_getfield (ci := 12) (k := 76) (v := vi ((M5 0 76) + 1)) dX12_map_73 rfl (by decide) kf_RX12_467 (congrArg vi (MR.in_ (MR.putI (MR.putA (MR.putA mr5 (k := 73) (j := M5 0 76) (z := (12 * x1) + x2) (by decide)) (k := 74) (j := M5 0 76) (z := 0) (by decide)) (k := 76) (z := (M5 0 76) + 1) (by decide)) (k := 76) (by decide) (up_eq))) (MR.putI (MR.putA (MR.putA mr5 (k := 73) (j := M5 0 76) (z := (12 * x1) + x2) (by decide)) (k := 74) (j := M5 0 76) (z := 0) (by decide)) (k := 76) (z := (M5 0 76) + 1) (by decide)).1 ?_
        refine X_iconst dX12_map_76 (by decide) ?_
        refine X_isubN dX12_map_77 (hc6.1 c7).2.2.2.2.2.2.2.2.1 (hc6.1 c7).2.2.2.2.2.2.2.2.2.1 ?_
        exact X_ret (z := (((M5 0 76) + 1) - 1)) dX12_map_78 rfl (fun hv => vok_h hv) ⟨rfl, _, (hc6.1 c7).2.2.2.2.2.2.2.2.2.2, (MR.putI (MR.putA (MR.putA mr5 (k := 73) (j := M5 0 76) (z := (12 * x1) + x2) (by decide)) (k := 74) (j := M5 0 76) (z := 0) (by decide)) (k := 76) (z := (M5 0 76) + 1) (by decide)), (MF.putI (MF.putA (MF.putA mf5 (k := 73) (j := M5 0 76) (z := (12 * x1) + x2) (by decide)) (k := 74) (j := M5 0 76) (z := 0) (by decide)) (k := 76) (z := (M5 0 76) + 1))⟩
      · refine X_bipush dX12_map_34 (by decide) (by decide) ?_
        exact X_ret (z := (-3)) dX12_map_36 rfl (fun hv => vok_h hv) ⟨rfl, _, (hc6.2 c7), mr5, mf5⟩
    · refine X_bipush dX12_map_20 (by decide) (by decide) ?_
      exact X_ret (z := (-2)) dX12_map_22 rfl (fun hv => vok_h hv) ⟨rfl, _, ((hc2.1 c3).2 c4), mr1, mf1⟩
  · refine X_iconst dX12_map_9 (by decide) ?_
    exact X_ret (z := (-1)) dX12_map_10 rfl (fun hv => vok_h hv) ⟨rfl, _, (hc2.2 c3), mr1, mf1⟩
def B_isMapped_0 (rc : MP) (cl : MC) (Q : Int → Mem → Prop) (d : Nat) (x1 x2 : Int) (M : Mem) : Prop := (x1 < 0 → Q 0 M) ∧ (¬ (x1 < 0) → ((M 0 76) ≤ x1 → Q 0 M) ∧ (¬ ((M 0 76) ≤ x1) → (x2 < 0 → Q 0 M) ∧ (¬ (x2 < 0) → 0 ≤ x1 ∧ x1 < 10 ∧ 0 ≤ (M 73 x1) ∧ (M 73 x1) < 120 ∧ ((M 14 (M 73 x1)) ≤ x2 → Q 0 M) ∧ (¬ ((M 14 (M 73 x1)) ≤ x2) → Q 1 M))))
set_option maxRecDepth 10000 in
theorem s_isMapped_0 {l : Launch} {G : GT} {m : Int} {a : Int → Int} {d mc ms : Nat} {S : Sh} {Q : Int → Mem → Prop} {rc : MP} {cl : MC} {V0 V M : Mem} {x1 x2 : Int} (hrc : RCok l G m a S V0 Q d mc ms rc) (hcl : CLok l G m a S d cl) (mr : MR m a S V M) (mf : MF m a V0 V) (hB : B_isMapped_0 rc cl Q d x1 x2 M) : XJ l G bX12_isMapped (Qm m a S V0 Q) (d + 1) 0 [vr m, vi x1, vi x2] [] S V mc ms := by
  unfold B_isMapped_0 at hB
  refine X_iload_n dX12_isMapped_0 rfl ?_
  refine X_if_lt dX12_isMapped_1 (tgt := 35) rfl (fun c1 => ?_) (fun c1 => ?_)
  · refine X_iconst dX12_isMapped_35 (by decide) ?_
    exact X_ret (z := 0) dX12_isMapped_36 rfl (fun _ => Or.inl rfl) ⟨rfl, _, (hB.1 c1), mr, mf⟩
  · refine X_iload_n dX12_isMapped_4 rfl ?_
    refine X_aload_n dX12_isMapped_5 rfl ?_
    refine X_getfield (ci := 12) (k := 76) (v := vi (M 0 76)) dX12_isMapped_6 rfl (by decide) kf_RX12_467 (congrArg vi (MR.in_ mr (k := 76) (by decide) rfl)) mr.1 ?_
    refine X_icmp_ge dX12_isMapped_9 (tgt := 35) rfl (fun c2 => ?_) (fun c2 => ?_)
    · refine X_iconst dX12_isMapped_35 (by decide) ?_
      exact X_ret (z := 0) dX12_isMapped_36 rfl (fun _ => Or.inl rfl) ⟨rfl, _, ((hB.2 c1).1 c2), mr, mf⟩
    · refine X_iload_n dX12_isMapped_12 rfl ?_
      refine X_if_lt dX12_isMapped_13 (tgt := 35) rfl (fun c3 => ?_) (fun c3 => ?_)
      · refine X_iconst dX12_isMapped_35 (by decide) ?_
        exact X_ret (z := 0) dX12_isMapped_36 rfl (fun _ => Or.inl rfl) ⟨rfl, _, (((hB.2 c1).2 c2).1 c3), mr, mf⟩
      · refine X_iload_n dX12_isMapped_16 rfl ?_
        refine X_aload_n dX12_isMapped_17 rfl ?_
        refine X_getfield (ci := 12) (k := 14) (v := vr (a 14)) dX12_isMapped_18 rfl (by decide) kf_RX12_29 (congrArg vr (MR.ar mr (k := 14) (by decide)).1) mr.1 ?_
        refine X_aload_n dX12_isMapped_21 rfl ?_
        refine X_getfield (ci := 12) (k := 73) (v := vr (a 73)) dX12_isMapped_22 rfl (by decide) kf_RX12_164 (congrArg vr (MR.ar mr (k := 73) (by decide)).1) mr.1 ?_
        refine X_iload_n dX12_isMapped_25 rfl ?_
        refine X_iaload dX12_isMapped_26 ((MR.ar mr (k := 73) (by decide)).2.1.trans (by decide)) (((hB.2 c1).2 c2).2 c3).1 (lt_eq (((hB.2 c1).2 c2).2 c3).2.1 (MR.ln mr (k := 73) (by decide) (by decide))) ?_
        refine X_top (v := vi (M 73 x1)) (congrArg vi (MR.el mr (k := 73) (by decide) rfl)) ?_
        refine X_iaload dX12_isMapped_27 ((MR.ar mr (k := 14) (by decide)).2.1.trans (by decide)) (((hB.2 c1).2 c2).2 c3).2.2.1 (lt_eq (((hB.2 c1).2 c2).2 c3).2.2.2.1 (MR.ln mr (k := 14) (by decide) (by decide))) ?_
        refine X_top (v := vi (M 14 (M 73 x1))) (congrArg vi (MR.el mr (k := 14) (by decide) rfl)) ?_
        refine X_icmp_ge dX12_isMapped_28 (tgt := 35) rfl (fun c4 => ?_) (fun c4 => ?_)
        · refine X_iconst dX12_isMapped_35 (by decide) ?_
          exact X_ret (z := 0) dX12_isMapped_36 rfl (fun _ => Or.inl rfl) ⟨rfl, _, ((((hB.2 c1).2 c2).2 c3).2.2.2.2.1 c4), mr, mf⟩
        · refine X_iconst dX12_isMapped_31 (by decide) ?_
          refine X_goto dX12_isMapped_32 (tgt := 36) rfl ?_
          exact X_ret (z := 1) dX12_isMapped_36 rfl (fun _ => Or.inr rfl) ⟨rfl, _, ((((hB.2 c1).2 c2).2 c3).2.2.2.2.2 c4), mr, mf⟩
def B_put_0 (rc : MP) (cl : MC) (Q : Int → Mem → Prop) (d : Nat) (x1 x2 x3 : Int) (M : Mem) : Prop := cl n_isMapped_0 [x1, x2] M (fun z1 M1 => (z1 ≠ 0 → 0 ≤ x1 ∧ x1 < 10 ∧ -2147483648 ≤ 24 * x1 ∧ 24 * x1 ≤ 2147483647 ∧ -2147483648 ≤ (24 * x1) + x2 ∧ (24 * x1) + x2 ≤ 2147483647 ∧ 0 ≤ ((24 * x1) + x2) ∧ ((24 * x1) + x2) < 240 ∧ -2147483648 ≤ 1 - (bAnd (bShr (M1 74 x1) x2) 1) ∧ 1 - (bAnd (bShr (M1 74 x1) x2) 1) ≤ 2147483647 ∧ Q (1 - (bAnd (bShr (M1 74 x1) x2) 1)) (up (up M1 74 x1 (bOr (M1 74 x1) (bShl 1 x2))) 75 ((24 * x1) + x2) x3)) ∧ (¬ (z1 ≠ 0) → Q (-1) M1))
set_option maxRecDepth 10000 in
theorem s_put_0 {l : Launch} {G : GT} {m : Int} {a : Int → Int} {d mc ms : Nat} {S : Sh} {Q : Int → Mem → Prop} {rc : MP} {cl : MC} {V0 V M : Mem} {x1 x2 x3 : Int} (hrc : RCok l G m a S V0 Q d mc ms rc) (hcl : CLok l G m a S d cl) (mr : MR m a S V M) (mf : MF m a V0 V) (hB : B_put_0 rc cl Q d x1 x2 x3 M) : XJ l G bX12_put (Qm m a S V0 Q) (d + 1) 0 [vr m, vi x1, vi x2, vi x3, vu] [] S V mc ms := by
  unfold B_put_0 at hB
  refine X_aload_n dX12_put_0 rfl ?_
  refine X_iload_n dX12_put_1 rfl ?_
  refine X_iload_n dX12_put_2 rfl ?_
  refine X_invV (ci := 12) (as := [vi x1, vi x2]) (st := []) okX12_isMapped dX12_put_3 km_RX12_470 rfl rfl (Nat.le_of_ble_eq_true rfl) rfl rfl mr.1 (CT.of d 0 0 (hcl n_isMapped_0 rfl [x1, x2] _ _ _ hB mr) (Nat.le_refl _) (Nat.zero_le _) (Nat.zero_le _) (fun z1 S1 V1 hq1 => ?_))
  obtain ⟨rfl, M1, hc2, mr1, hf1⟩ := hq1
  have mf1 := MF.trans mf hf1
  refine X_if_ne dX12_put_6 (tgt := 11) rfl (fun c3 => ?_) (fun c3 => ?_)
  · refine X_aload_n dX12_put_11 rfl ?_
    refine X_getfield (ci := 12) (k := 74) (v := vr (a 74)) dX12_put_12 rfl (by decide) kf_RX12_167 (congrArg vr (MR.ar mr1 (k := 74) (by decide)).1) mr1.1 ?_
    refine X_iload_n dX12_put_15 rfl ?_
    refine X_iaload dX12_put_16 ((MR.ar mr1 (k := 74) (by decide)).2.1.trans (by decide)) (hc2.1 c3).1 (lt_eq (hc2.1 c3).2.1 (MR.ln mr1 (k := 74) (by decide) (by decide))) ?_
    refine X_top (v := vi (M1 74 x1)) (congrArg vi (MR.el mr1 (k := 74) (by decide) rfl)) ?_
    refine X_iload_n dX12_put_17 rfl ?_
    refine X_ishr dX12_put_18 ?_
    refine X_iconst dX12_put_19 (by decide) ?_
    refine X_iand dX12_put_20 ?_
    refine X_istore dX12_put_21 (by decide) rfl ?_
    refine X_aload_n dX12_put_23 rfl ?_
    refine X_getfield (ci := 12) (k := 74) (v := vr (a 74)) dX12_put_24 rfl (by decide) kf_RX12_167 (congrArg vr (MR.ar mr1 (k := 74) (by decide)).1) mr1.1 ?_
    refine X_iload_n dX12_put_27 rfl ?_
    refine X_dup2 dX12_put_28 rfl (rv_cat _) ?_
    refine X_iaload dX12_put_29 ((MR.ar mr1 (k := 74) (by decide)).2.1.trans (by decide)) (hc2.1 c3).1 (lt_eq (hc2.1 c3).2.1 (MR.ln mr1 (k := 74) (by decide) (by decide))) ?_
    refine X_top (v := vi (M1 74 x1)) (congrArg vi (MR.el mr1 (k := 74) (by decide) rfl)) ?_
    refine X_iconst dX12_put_30 (by decide) ?_
    refine X_iload_n dX12_put_31 rfl ?_
    refine X_ishl dX12_put_32 ?_
    refine X_ior dX12_put_33 ?_
    refine X_iastore dX12_put_34 ((MR.ar mr1 (k := 74) (by decide)).2.1.trans (by decide)) (hc2.1 c3).1 (lt_eq (hc2.1 c3).2.1 (MR.ln mr1 (k := 74) (by decide) (by decide))) ?_
    refine X_aload_n dX12_put_35 rfl ?_
    refine X_getfield (ci := 12) (k := 75) (v := vr (a 75)) dX12_put_36 rfl (by decide) kf_RX12_170 (congrArg vr (MR.ar (MR.putA mr1 (k := 74) (j := x1) (z := bOr (M1 74 x1) (bShl 1 x2)) (by decide)) (k := 75) (by decide)).1) (MR.putA mr1 (k := 74) (j := x1) (z := bOr (M1 74 x1) (bShl 1 x2)) (by decide)).1 ?_
    refine X_bipush dX12_put_39 (by decide) (by decide) ?_
    refine X_iload_n dX12_put_41 rfl ?_
    refine X_imulN dX12_put_42 (hc2.1 c3).2.2.1 (hc2.1 c3).2.2.2.1 ?_
    refine X_iload_n dX12_put_43 rfl ?_
    refine X_iaddN dX12_put_44 (hc2.1 c3).2.2.2.2.1 (hc2.1 c3).2.2.2.2.2.1 ?_
    refine X_iload_n dX12_put_45 rfl ?_
    refine X_iastore dX12_put_46 ((MR.ar (MR.putA mr1 (k := 74) (j := x1) (z := bOr (M1 74 x1) (bShl 1 x2)) (by decide)) (k := 75) (by decide)).2.1.trans (by decide)) (hc2.1 c3).2.2.2.2.2.2.1 (lt_eq (hc2.1 c3).2.2.2.2.2.2.2.1 (MR.ln (MR.putA mr1 (k := 74) (j := x1) (z := bOr (M1 74 x1) (bShl 1 x2)) (by decide)) (k := 75) (by decide) (by decide))) ?_
    refine X_iconst dX12_put_47 (by decide) ?_
    refine X_iload dX12_put_48 rfl ?_
    refine X_isubN dX12_put_50 (hc2.1 c3).2.2.2.2.2.2.2.2.1 (hc2.1 c3).2.2.2.2.2.2.2.2.2.1 ?_
    exact X_ret (z := (1 - (bAnd (bShr (M1 74 x1) x2) 1))) dX12_put_51 rfl (fun hv => vok_h hv) ⟨rfl, _, (hc2.1 c3).2.2.2.2.2.2.2.2.2.2, (MR.putA (MR.putA mr1 (k := 74) (j := x1) (z := bOr (M1 74 x1) (bShl 1 x2)) (by decide)) (k := 75) (j := (24 * x1) + x2) (z := x3) (by decide)), (MF.putA (MF.putA mf1 (k := 74) (j := x1) (z := bOr (M1 74 x1) (bShl 1 x2)) (by decide)) (k := 75) (j := (24 * x1) + x2) (z := x3) (by decide))⟩
  · refine X_iconst dX12_put_9 (by decide) ?_
    exact X_ret (z := (-1)) dX12_put_10 rfl (fun hv => vok_h hv) ⟨rfl, _, (hc2.2 c3), mr1, mf1⟩
def B_get_0 (rc : MP) (cl : MC) (Q : Int → Mem → Prop) (d : Nat) (x1 x2 : Int) (M : Mem) : Prop := cl n_isMapped_0 [x1, x2] M (fun z1 M1 => (z1 ≠ 0 → 0 ≤ x1 ∧ x1 < 10 ∧ ((bAnd (bShr (M1 74 x1) x2) 1) ≠ 0 → -2147483648 ≤ 24 * x1 ∧ 24 * x1 ≤ 2147483647 ∧ -2147483648 ≤ (24 * x1) + x2 ∧ (24 * x1) + x2 ≤ 2147483647 ∧ 0 ≤ ((24 * x1) + x2) ∧ ((24 * x1) + x2) < 240 ∧ Q 1 (up M1 0 69 (M1 75 ((24 * x1) + x2)))) ∧ (¬ ((bAnd (bShr (M1 74 x1) x2) 1) ≠ 0) → Q 0 M1)) ∧ (¬ (z1 ≠ 0) → Q (-1) M1))
set_option maxRecDepth 10000 in
theorem s_get_0 {l : Launch} {G : GT} {m : Int} {a : Int → Int} {d mc ms : Nat} {S : Sh} {Q : Int → Mem → Prop} {rc : MP} {cl : MC} {V0 V M : Mem} {x1 x2 : Int} (hrc : RCok l G m a S V0 Q d mc ms rc) (hcl : CLok l G m a S d cl) (mr : MR m a S V M) (mf : MF m a V0 V) (hB : B_get_0 rc cl Q d x1 x2 M) : XJ l G bX12_get (Qm m a S V0 Q) (d + 1) 0 [vr m, vi x1, vi x2] [] S V mc ms := by
  unfold B_get_0 at hB
  refine X_aload_n dX12_get_0 rfl ?_
  refine X_iload_n dX12_get_1 rfl ?_
  refine X_iload_n dX12_get_2 rfl ?_
  refine X_invV (ci := 12) (as := [vi x1, vi x2]) (st := []) okX12_isMapped dX12_get_3 km_RX12_470 rfl rfl (Nat.le_of_ble_eq_true rfl) rfl rfl mr.1 (CT.of d 0 0 (hcl n_isMapped_0 rfl [x1, x2] _ _ _ hB mr) (Nat.le_refl _) (Nat.zero_le _) (Nat.zero_le _) (fun z1 S1 V1 hq1 => ?_))
  obtain ⟨rfl, M1, hc2, mr1, hf1⟩ := hq1
  have mf1 := MF.trans mf hf1
  refine X_if_ne dX12_get_6 (tgt := 11) rfl (fun c3 => ?_) (fun c3 => ?_)
  · refine X_aload_n dX12_get_11 rfl ?_
    refine X_getfield (ci := 12) (k := 74) (v := vr (a 74)) dX12_get_12 rfl (by decide) kf_RX12_167 (congrArg vr (MR.ar mr1 (k := 74) (by decide)).1) mr1.1 ?_
    refine X_iload_n dX12_get_15 rfl ?_
    refine X_iaload dX12_get_16 ((MR.ar mr1 (k := 74) (by decide)).2.1.trans (by decide)) (hc2.1 c3).1 (lt_eq (hc2.1 c3).2.1 (MR.ln mr1 (k := 74) (by decide) (by decide))) ?_
    refine X_top (v := vi (M1 74 x1)) (congrArg vi (MR.el mr1 (k := 74) (by decide) rfl)) ?_
    refine X_iload_n dX12_get_17 rfl ?_
    refine X_ishr dX12_get_18 ?_
    refine X_iconst dX12_get_19 (by decide) ?_
    refine X_iand dX12_get_20 ?_
    refine X_if_ne dX12_get_21 (tgt := 26) rfl (fun c4 => ?_) (fun c4 => ?_)
    · refine X_aload_n dX12_get_26 rfl ?_
      refine X_aload_n dX12_get_27 rfl ?_
      refine X_getfield (ci := 12) (k := 75) (v := vr (a 75)) dX12_get_28 rfl (by decide) kf_RX12_170 (congrArg vr (MR.ar mr1 (k := 75) (by decide)).1) mr1.1 ?_
      refine X_bipush dX12_get_31 (by decide) (by decide) ?_
      refine X_iload_n dX12_get_33 rfl ?_
      refine X_imulN dX12_get_34 ((hc2.1 c3).2.2.1 c4).1 ((hc2.1 c3).2.2.1 c4).2.1 ?_
      refine X_iload_n dX12_get_35 rfl ?_
      refine X_iaddN dX12_get_36 ((hc2.1 c3).2.2.1 c4).2.2.1 ((hc2.1 c3).2.2.1 c4).2.2.2.1 ?_
      refine X_iaload dX12_get_37 ((MR.ar mr1 (k := 75) (by decide)).2.1.trans (by decide)) ((hc2.1 c3).2.2.1 c4).2.2.2.2.1 (lt_eq ((hc2.1 c3).2.2.1 c4).2.2.2.2.2.1 (MR.ln mr1 (k := 75) (by decide) (by decide))) ?_
      refine X_top (v := vi (M1 75 ((24 * x1) + x2))) (congrArg vi (MR.el mr1 (k := 75) (by decide) rfl)) ?_
      refine X_putfield (ci := 12) (k := 69) (z := (M1 75 ((24 * x1) + x2))) dX12_get_38 rfl (by decide) kf_RX12_442 (Or.inl rfl) (Or.inl rfl) rfl (fun hv => hv) mr1.1 ?_
      refine X_iconst dX12_get_41 (by decide) ?_
      exact X_ret (z := 1) dX12_get_42 rfl (fun hv => vok_h hv) ⟨rfl, _, ((hc2.1 c3).2.2.1 c4).2.2.2.2.2.2, (MR.putI mr1 (k := 69) (z := M1 75 ((24 * x1) + x2)) (by decide)), (MF.putI mf1 (k := 69) (z := M1 75 ((24 * x1) + x2)))⟩
    · refine X_iconst dX12_get_24 (by decide) ?_
      exact X_ret (z := 0) dX12_get_25 rfl (fun hv => vok_h hv) ⟨rfl, _, ((hc2.1 c3).2.2.2 c4), mr1, mf1⟩
  · refine X_iconst dX12_get_9 (by decide) ?_
    exact X_ret (z := (-1)) dX12_get_10 rfl (fun hv => vok_h hv) ⟨rfl, _, (hc2.2 c3), mr1, mf1⟩
def B_constantHere_0 (rc : MP) (cl : MC) (Q : Int → Mem → Prop) (d : Nat) (x1 : Int) (M : Mem) : Prop := cl n_isName_0 [] M (fun z1 M1 => (z1 ≠ 0 → -2147483648 ≤ 12 * x1 ∧ 12 * x1 ≤ 2147483647 ∧ rc n_constantHere_14 [x1, 12 * x1] M1) ∧ (¬ (z1 ≠ 0) → Q (-1) M1))
set_option maxRecDepth 10000 in
theorem s_constantHere_0 {l : Launch} {G : GT} {m : Int} {a : Int → Int} {d mc ms : Nat} {S : Sh} {Q : Int → Mem → Prop} {rc : MP} {cl : MC} {V0 V M : Mem} {x1 : Int} (hrc : RCok l G m a S V0 Q d mc ms rc) (hcl : CLok l G m a S d cl) (mr : MR m a S V M) (mf : MF m a V0 V) (hB : B_constantHere_0 rc cl Q d x1 M) : XJ l G bX12_constantHere (Qm m a S V0 Q) (d + 1) 0 [vr m, vi x1, vu, vu, vu, vu, vu] [] S V mc ms := by
  unfold B_constantHere_0 at hB
  refine X_aload_n dX12_constantHere_0 rfl ?_
  refine X_invV (ci := 12) (as := []) (st := []) okX12_isName dX12_constantHere_1 km_RX12_291 rfl rfl (Nat.le_of_ble_eq_true rfl) rfl rfl mr.1 (CT.of d 0 0 (hcl n_isName_0 rfl [] _ _ _ hB mr) (Nat.le_refl _) (Nat.zero_le _) (Nat.zero_le _) (fun z1 S1 V1 hq1 => ?_))
  obtain ⟨rfl, M1, hc2, mr1, hf1⟩ := hq1
  have mf1 := MF.trans mf hf1
  refine X_if_ne dX12_constantHere_4 (tgt := 9) rfl (fun c3 => ?_) (fun c3 => ?_)
  · refine X_bipush dX12_constantHere_9 (by decide) (by decide) ?_
    refine X_iload_n dX12_constantHere_11 rfl ?_
    refine X_imulN dX12_constantHere_12 (hc2.1 c3).1 (hc2.1 c3).2.1 ?_
    refine X_istore_n dX12_constantHere_13 (by decide) rfl ?_
    exact hrc n_constantHere_14 [x1, 12 * x1] _ _ (hc2.1 c3).2.2 mr1 mf1
  · refine X_iconst dX12_constantHere_7 (by decide) ?_
    exact X_ret (z := (-1)) dX12_constantHere_8 rfl (fun hv => vok_h hv) ⟨rfl, _, (hc2.2 c3), mr1, mf1⟩
def B_constantHere_14 (rc : MP) (cl : MC) (Q : Int → Mem → Prop) (d : Nat) (x1 x2 : Int) (M : Mem) : Prop := -2147483648 ≤ 12 * x1 ∧ 12 * x1 ≤ 2147483647 ∧ 0 ≤ x1 ∧ x1 < 10 ∧ -2147483648 ≤ (12 * x1) + (M 10 x1) ∧ (12 * x1) + (M 10 x1) ≤ 2147483647 ∧ (((12 * x1) + (M 10 x1)) ≤ x2 → Q (-1) M) ∧ (¬ (((12 * x1) + (M 10 x1)) ≤ x2) → -2147483648 ≤ 24 * x2 ∧ 24 * x2 ≤ 2147483647 ∧ rc n_constantHere_34 [x1, x2, 24 * x2] M)
set_option maxRecDepth 10000 in
theorem s_constantHere_14 {l : Launch} {G : GT} {m : Int} {a : Int → Int} {d mc ms : Nat} {S : Sh} {Q : Int → Mem → Prop} {rc : MP} {cl : MC} {V0 V M : Mem} {x1 x2 : Int} (hrc : RCok l G m a S V0 Q d mc ms rc) (hcl : CLok l G m a S d cl) (mr : MR m a S V M) (mf : MF m a V0 V) (hB : B_constantHere_14 rc cl Q d x1 x2 M) : XJ l G bX12_constantHere (Qm m a S V0 Q) (d + 1) 14 [vr m, vi x1, vi x2, vu, vu, vu, vu] [] S V mc ms := by
  unfold B_constantHere_14 at hB
  refine X_iload_n dX12_constantHere_14 rfl ?_
  refine X_bipush dX12_constantHere_15 (by decide) (by decide) ?_
  refine X_iload_n dX12_constantHere_17 rfl ?_
  refine X_imulN dX12_constantHere_18 hB.1 hB.2.1 ?_
  refine X_aload_n dX12_constantHere_19 rfl ?_
  refine X_getfield (ci := 12) (k := 10) (v := vr (a 10)) dX12_constantHere_20 rfl (by decide) kf_RX12_16 (congrArg vr (MR.ar mr (k := 10) (by decide)).1) mr.1 ?_
  refine X_iload_n dX12_constantHere_23 rfl ?_
  refine X_iaload dX12_constantHere_24 ((MR.ar mr (k := 10) (by decide)).2.1.trans (by decide)) hB.2.2.1 (lt_eq hB.2.2.2.1 (MR.ln mr (k := 10) (by decide) (by decide))) ?_
  refine X_top (v := vi (M 10 x1)) (congrArg vi (MR.el mr (k := 10) (by decide) rfl)) ?_
  refine X_iaddN dX12_constantHere_25 hB.2.2.2.2.1 hB.2.2.2.2.2.1 ?_
  refine X_icmp_ge dX12_constantHere_26 (tgt := 159) rfl (fun c1 => ?_) (fun c1 => ?_)
  · refine X_iconst dX12_constantHere_159 (by decide) ?_
    exact X_ret (z := (-1)) dX12_constantHere_160 rfl (fun hv => vok_h hv) ⟨rfl, _, (hB.2.2.2.2.2.2.1 c1), mr, mf⟩
  · refine X_bipush dX12_constantHere_29 (by decide) (by decide) ?_
    refine X_iload_n dX12_constantHere_31 rfl ?_
    refine X_imulN dX12_constantHere_32 (hB.2.2.2.2.2.2.2 c1).1 (hB.2.2.2.2.2.2.2 c1).2.1 ?_
    refine X_istore_n dX12_constantHere_33 (by decide) rfl ?_
    exact hrc n_constantHere_34 [x1, x2, 24 * x2] _ _ (hB.2.2.2.2.2.2.2 c1).2.2 mr mf
def B_constantHere_34 (rc : MP) (cl : MC) (Q : Int → Mem → Prop) (d : Nat) (x1 x2 x3 : Int) (M : Mem) : Prop := -2147483648 ≤ 24 * x2 ∧ 24 * x2 ≤ 2147483647 ∧ 0 ≤ x2 ∧ x2 < 120 ∧ -2147483648 ≤ (24 * x2) + (M 14 x2) ∧ (24 * x2) + (M 14 x2) ≤ 2147483647 ∧ (((24 * x2) + (M 14 x2)) ≤ x3 → -2147483648 ≤ x2 + 1 ∧ x2 + 1 ≤ 2147483647 ∧ rc n_constantHere_14 [x1, x2 + 1] M) ∧ (¬ (((24 * x2) + (M 14 x2)) ≤ x3) → 0 ≤ x3 ∧ x3 < 2880 ∧ -2147483648 ≤ (M 0 5) - (M 0 4) ∧ (M 0 5) - (M 0 4) ≤ 2147483647 ∧ (((M 20 x3).tmod 16) ≠ ((M 0 5) - (M 0 4)) → rc n_constantHere_84 [x1, x2, x3, M 20 x3, 0, 0] M) ∧ (¬ (((M 20 x3).tmod 16) ≠ ((M 0 5) - (M 0 4))) → rc n_constantHere_84 [x1, x2, x3, M 20 x3, 1, 0] M))
set_option maxRecDepth 10000 in
theorem s_constantHere_34 {l : Launch} {G : GT} {m : Int} {a : Int → Int} {d mc ms : Nat} {S : Sh} {Q : Int → Mem → Prop} {rc : MP} {cl : MC} {V0 V M : Mem} {x1 x2 x3 : Int} (hrc : RCok l G m a S V0 Q d mc ms rc) (hcl : CLok l G m a S d cl) (mr : MR m a S V M) (mf : MF m a V0 V) (hB : B_constantHere_34 rc cl Q d x1 x2 x3 M) : XJ l G bX12_constantHere (Qm m a S V0 Q) (d + 1) 34 [vr m, vi x1, vi x2, vi x3, vu, vu, vu] [] S V mc ms := by
  unfold B_constantHere_34 at hB
  refine X_iload_n dX12_constantHere_34 rfl ?_
  refine X_bipush dX12_constantHere_35 (by decide) (by decide) ?_
  refine X_iload_n dX12_constantHere_37 rfl ?_
  refine X_imulN dX12_constantHere_38 hB.1 hB.2.1 ?_
  refine X_aload_n dX12_constantHere_39 rfl ?_
  refine X_getfield (ci := 12) (k := 14) (v := vr (a 14)) dX12_constantHere_40 rfl (by decide) kf_RX12_29 (congrArg vr (MR.ar mr (k := 14) (by decide)).1) mr.1 ?_
  refine X_iload_n dX12_constantHere_43 rfl ?_
  refine X_iaload dX12_constantHere_44 ((MR.ar mr (k := 14) (by decide)).2.1.trans (by decide)) hB.2.2.1 (lt_eq hB.2.2.2.1 (MR.ln mr (k := 14) (by decide) (by decide))) ?_
  refine X_top (v := vi (M 14 x2)) (congrArg vi (MR.el mr (k := 14) (by decide) rfl)) ?_
  refine X_iaddN dX12_constantHere_45 hB.2.2.2.2.1 hB.2.2.2.2.2.1 ?_
  refine X_icmp_ge dX12_constantHere_46 (tgt := 153) rfl (fun c1 => ?_) (fun c1 => ?_)
  · refine X_iincN dX12_constantHere_153 rfl (by decide) rfl (e := x2 + 1) rfl (hB.2.2.2.2.2.2.1 c1).1 (hB.2.2.2.2.2.2.1 c1).2.1 ?_
    refine X_goto dX12_constantHere_156 (tgt := 14) rfl ?_
    exact X_weak [false, false, false, true, false, false, false] (hrc n_constantHere_14 [x1, x2 + 1] _ _ (hB.2.2.2.2.2.2.1 c1).2.2 mr mf)
  · refine X_aload_n dX12_constantHere_49 rfl ?_
    refine X_getfield (ci := 12) (k := 20) (v := vr (a 20)) dX12_constantHere_50 rfl (by decide) kf_RX12_47 (congrArg vr (MR.ar mr (k := 20) (by decide)).1) mr.1 ?_
    refine X_iload_n dX12_constantHere_53 rfl ?_
    refine X_iaload dX12_constantHere_54 ((MR.ar mr (k := 20) (by decide)).2.1.trans (by decide)) (hB.2.2.2.2.2.2.2 c1).1 (lt_eq (hB.2.2.2.2.2.2.2 c1).2.1 (MR.ln mr (k := 20) (by decide) (by decide))) ?_
    refine X_top (v := vi (M 20 x3)) (congrArg vi (MR.el mr (k := 20) (by decide) rfl)) ?_
    refine X_istore dX12_constantHere_55 (by decide) rfl ?_
    refine X_iload dX12_constantHere_57 rfl ?_
    refine X_bipush dX12_constantHere_59 (by decide) (by decide) ?_
    refine X_iremP dX12_constantHere_61 (by decide) ?_
    refine X_aload_n dX12_constantHere_62 rfl ?_
    refine X_getfield (ci := 12) (k := 5) (v := vi (M 0 5)) dX12_constantHere_63 rfl (by decide) kf_RX12_195 (congrArg vi (MR.in_ mr (k := 5) (by decide) rfl)) mr.1 ?_
    refine X_aload_n dX12_constantHere_66 rfl ?_
    refine X_getfield (ci := 12) (k := 4) (v := vi (M 0 4)) dX12_constantHere_67 rfl (by decide) kf_RX12_198 (congrArg vi (MR.in_ mr (k := 4) (by decide) rfl)) mr.1 ?_
    refine X_isubN dX12_constantHere_70 (hB.2.2.2.2.2.2.2 c1).2.2.1 (hB.2.2.2.2.2.2.2 c1).2.2.2.1 ?_
    refine X_icmp_ne dX12_constantHere_71 (tgt := 78) rfl (fun c2 => ?_) (fun c2 => ?_)
    · refine X_iconst dX12_constantHere_78 (by decide) ?_
      refine X_istore dX12_constantHere_79 (by decide) rfl ?_
      refine X_iconst dX12_constantHere_81 (by decide) ?_
      refine X_istore dX12_constantHere_82 (by decide) rfl ?_
      exact hrc n_constantHere_84 [x1, x2, x3, M 20 x3, 0, 0] _ _ ((hB.2.2.2.2.2.2.2 c1).2.2.2.2.1 c2) mr mf
    · refine X_iconst dX12_constantHere_74 (by decide) ?_
      refine X_goto dX12_constantHere_75 (tgt := 79) rfl ?_
      refine X_istore dX12_constantHere_79 (by decide) rfl ?_
      refine X_iconst dX12_constantHere_81 (by decide) ?_
      refine X_istore dX12_constantHere_82 (by decide) rfl ?_
      exact hrc n_constantHere_84 [x1, x2, x3, M 20 x3, 1, 0] _ _ ((hB.2.2.2.2.2.2.2 c1).2.2.2.2.2 c2) mr mf
def B_constantHere_84 (rc : MP) (cl : MC) (Q : Int → Mem → Prop) (d : Nat) (x1 x2 x3 x4 x5 x6 : Int) (M : Mem) : Prop := ((x4.tmod 16) ≤ x6 → (x5 = 0 → -2147483648 ≤ x3 + 1 ∧ x3 + 1 ≤ 2147483647 ∧ rc n_constantHere_34 [x1, x2, x3 + 1] M) ∧ (¬ (x5 = 0) → Q x3 M)) ∧ (¬ ((x4.tmod 16) ≤ x6) → (x5 = 0 → (x5 = 0 → -2147483648 ≤ x3 + 1 ∧ x3 + 1 ≤ 2147483647 ∧ rc n_constantHere_34 [x1, x2, x3 + 1] M) ∧ (¬ (x5 = 0) → Q x3 M)) ∧ (¬ (x5 = 0) → -2147483648 ≤ (x4.tdiv 16) + x6 ∧ (x4.tdiv 16) + x6 ≤ 2147483647 ∧ 0 ≤ ((x4.tdiv 16) + x6) ∧ ((x4.tdiv 16) + x6) < 30000 ∧ -2147483648 ≤ (M 0 4) + x6 ∧ (M 0 4) + x6 ≤ 2147483647 ∧ 0 ≤ ((M 0 4) + x6) ∧ ((M 0 4) + x6) < 3000 ∧ ((M 7 ((x4.tdiv 16) + x6)) ≠ (M 1 ((M 0 4) + x6)) → -2147483648 ≤ x6 + 1 ∧ x6 + 1 ≤ 2147483647 ∧ rc n_constantHere_84 [x1, x2, x3, x4, 0, x6 + 1] M) ∧ (¬ ((M 7 ((x4.tdiv 16) + x6)) ≠ (M 1 ((M 0 4) + x6))) → -2147483648 ≤ x6 + 1 ∧ x6 + 1 ≤ 2147483647 ∧ rc n_constantHere_84 [x1, x2, x3, x4, 1, x6 + 1] M)))
set_option maxRecDepth 10000 in
theorem s_constantHere_84 {l : Launch} {G : GT} {m : Int} {a : Int → Int} {d mc ms : Nat} {S : Sh} {Q : Int → Mem → Prop} {rc : MP} {cl : MC} {V0 V M : Mem} {x1 x2 x3 x4 x5 x6 : Int} (hrc : RCok l G m a S V0 Q d mc ms rc) (hcl : CLok l G m a S d cl) (mr : MR m a S V M) (mf : MF m a V0 V) (hB : B_constantHere_84 rc cl Q d x1 x2 x3 x4 x5 x6 M) : XJ l G bX12_constantHere (Qm m a S V0 Q) (d + 1) 84 [vr m, vi x1, vi x2, vi x3, vi x4, vi x5, vi x6] [] S V mc ms := by
  unfold B_constantHere_84 at hB
  refine X_iload dX12_constantHere_84 rfl ?_
  refine X_iload dX12_constantHere_86 rfl ?_
  refine X_bipush dX12_constantHere_88 (by decide) (by decide) ?_
  refine X_iremP dX12_constantHere_90 (by decide) ?_
  refine X_icmp_ge dX12_constantHere_91 (tgt := 140) rfl (fun c1 => ?_) (fun c1 => ?_)
  · refine X_iload dX12_constantHere_140 rfl ?_
    refine X_if_eq dX12_constantHere_142 (tgt := 147) rfl (fun c2 => ?_) (fun c2 => ?_)
    · refine X_iincN dX12_constantHere_147 rfl (by decide) rfl (e := x3 + 1) rfl ((hB.1 c1).1 c2).1 ((hB.1 c1).1 c2).2.1 ?_
      refine X_goto dX12_constantHere_150 (tgt := 34) rfl ?_
      exact X_weak [false, false, false, false, true, true, true] (hrc n_constantHere_34 [x1, x2, x3 + 1] _ _ ((hB.1 c1).1 c2).2.2 mr mf)
    · refine X_iload_n dX12_constantHere_145 rfl ?_
      exact X_ret (z := x3) dX12_constantHere_146 rfl (fun hv => vok_h hv) ⟨rfl, _, ((hB.1 c1).2 c2), mr, mf⟩
  · refine X_iload dX12_constantHere_94 rfl ?_
    refine X_if_eq dX12_constantHere_96 (tgt := 140) rfl (fun c3 => ?_) (fun c3 => ?_)
    · refine X_iload dX12_constantHere_140 rfl ?_
      refine X_if_eq dX12_constantHere_142 (tgt := 147) rfl (fun c4 => ?_) (fun c4 => ?_)
      · refine X_iincN dX12_constantHere_147 rfl (by decide) rfl (e := x3 + 1) rfl (((hB.2 c1).1 c3).1 c4).1 (((hB.2 c1).1 c3).1 c4).2.1 ?_
        refine X_goto dX12_constantHere_150 (tgt := 34) rfl ?_
        exact X_weak [false, false, false, false, true, true, true] (hrc n_constantHere_34 [x1, x2, x3 + 1] _ _ (((hB.2 c1).1 c3).1 c4).2.2 mr mf)
      · refine X_iload_n dX12_constantHere_145 rfl ?_
        exact X_ret (z := x3) dX12_constantHere_146 rfl (fun hv => vok_h hv) ⟨rfl, _, (((hB.2 c1).1 c3).2 c4), mr, mf⟩
    · refine X_aload_n dX12_constantHere_99 rfl ?_
      refine X_getfield (ci := 12) (k := 7) (v := vr (a 7)) dX12_constantHere_100 rfl (by decide) kf_RX12_13 (congrArg vr (MR.ar mr (k := 7) (by decide)).1) mr.1 ?_
      refine X_iload dX12_constantHere_103 rfl ?_
      refine X_bipush dX12_constantHere_105 (by decide) (by decide) ?_
      refine X_idivP dX12_constantHere_107 (by decide) ?_
      refine X_iload dX12_constantHere_108 rfl ?_
      refine X_iaddN dX12_constantHere_110 ((hB.2 c1).2 c3).1 ((hB.2 c1).2 c3).2.1 ?_
      refine X_baload dX12_constantHere_111 ((MR.ar mr (k := 7) (by decide)).2.1.trans (by decide)) ((hB.2 c1).2 c3).2.2.1 (lt_eq ((hB.2 c1).2 c3).2.2.2.1 (MR.ln mr (k := 7) (by decide) (by decide))) ?_
      refine X_top (v := vi (M 7 ((x4.tdiv 16) + x6))) (congrArg vi (MR.el mr (k := 7) (by decide) rfl)) ?_
      refine X_aload_n dX12_constantHere_112 rfl ?_
      refine X_getfield (ci := 12) (k := 1) (v := vr (a 1)) dX12_constantHere_113 rfl (by decide) kf_RX12_7 (congrArg vr (MR.ar mr (k := 1) (by decide)).1) mr.1 ?_
      refine X_aload_n dX12_constantHere_116 rfl ?_
      refine X_getfield (ci := 12) (k := 4) (v := vi (M 0 4)) dX12_constantHere_117 rfl (by decide) kf_RX12_198 (congrArg vi (MR.in_ mr (k := 4) (by decide) rfl)) mr.1 ?_
      refine X_iload dX12_constantHere_120 rfl ?_
      refine X_iaddN dX12_constantHere_122 ((hB.2 c1).2 c3).2.2.2.2.1 ((hB.2 c1).2 c3).2.2.2.2.2.1 ?_
      refine X_baload dX12_constantHere_123 ((MR.ar mr (k := 1) (by decide)).2.1.trans (by decide)) ((hB.2 c1).2 c3).2.2.2.2.2.2.1 (lt_eq ((hB.2 c1).2 c3).2.2.2.2.2.2.2.1 (MR.ln mr (k := 1) (by decide) (by decide))) ?_
      refine X_top (v := vi (M 1 ((M 0 4) + x6))) (congrArg vi (MR.el mr (k := 1) (by decide) rfl)) ?_
      refine X_icmp_ne dX12_constantHere_124 (tgt := 131) rfl (fun c5 => ?_) (fun c5 => ?_)
      · refine X_iconst dX12_constantHere_131 (by decide) ?_
        refine X_istore dX12_constantHere_132 (by decide) rfl ?_
        refine X_iincN dX12_constantHere_134 rfl (by decide) rfl (e := x6 + 1) rfl (((hB.2 c1).2 c3).2.2.2.2.2.2.2.2.1 c5).1 (((hB.2 c1).2 c3).2.2.2.2.2.2.2.2.1 c5).2.1 ?_
        refine X_goto dX12_constantHere_137 (tgt := 84) rfl ?_
        exact hrc n_constantHere_84 [x1, x2, x3, x4, 0, x6 + 1] _ _ (((hB.2 c1).2 c3).2.2.2.2.2.2.2.2.1 c5).2.2 mr mf
      · refine X_iconst dX12_constantHere_127 (by decide) ?_
        refine X_goto dX12_constantHere_128 (tgt := 132) rfl ?_
        refine X_istore dX12_constantHere_132 (by decide) rfl ?_
        refine X_iincN dX12_constantHere_134 rfl (by decide) rfl (e := x6 + 1) rfl (((hB.2 c1).2 c3).2.2.2.2.2.2.2.2.2 c5).1 (((hB.2 c1).2 c3).2.2.2.2.2.2.2.2.2 c5).2.1 ?_
        refine X_goto dX12_constantHere_137 (tgt := 84) rfl ?_
        exact hrc n_constantHere_84 [x1, x2, x3, x4, 1, x6 + 1] _ _ (((hB.2 c1).2 c3).2.2.2.2.2.2.2.2.2 c5).2.2 mr mf
def B_encode_0 (rc : MP) (cl : MC) (Q : Int → Mem → Prop) (d : Nat) (x1 : Int) (M : Mem) : Prop := (x1 < 0 → Q (-1) M) ∧ (¬ (x1 < 0) → (x1 < (M 0 8) → ((M 0 81) ≠ 20 → -2147483648 ≤ 61 * (M 0 81) ∧ 61 * (M 0 81) ≤ 2147483647 ∧ cl n_next_0 [] (up M 0 5 0) (fun z4 M4 => rc n_encode_51 [x1, 61 * (M 0 81), 0, 0, 1] M4)) ∧ (¬ ((M 0 81) ≠ 20) → Q (-2) M)) ∧ (¬ (x1 < (M 0 8)) → Q (-1) M))
set_option maxRecDepth 10000 in
theorem s_encode_0 {l : Launch} {G : GT} {m : Int} {a : Int → Int} {d mc ms : Nat} {S : Sh} {Q : Int → Mem → Prop} {rc : MP} {cl : MC} {V0 V M : Mem} {x1 : Int} (hrc : RCok l G m a S V0 Q d mc ms rc) (hcl : CLok l G m a S d cl) (mr : MR m a S V M) (mf : MF m a V0 V) (hB : B_encode_0 rc cl Q d x1 M) : XJ l G bX12_encode (Qm m a S V0 Q) (d + 1) 0 [vr m, vi x1, vu, vu, vu, vu, vu] [] S V mc ms := by
  unfold B_encode_0 at hB
  refine X_iload_n dX12_encode_0 rfl ?_
  refine X_if_lt dX12_encode_1 (tgt := 12) rfl (fun c1 => ?_) (fun c1 => ?_)
  · refine X_iconst dX12_encode_12 (by decide) ?_
    exact X_ret (z := (-1)) dX12_encode_13 rfl (fun hv => vok_h hv) ⟨rfl, _, (hB.1 c1), mr, mf⟩
  · refine X_iload_n dX12_encode_4 rfl ?_
    refine X_aload_n dX12_encode_5 rfl ?_
    refine X_getfield (ci := 12) (k := 8) (v := vi (M 0 8)) dX12_encode_6 rfl (by decide) kf_RX12_392 (congrArg vi (MR.in_ mr (k := 8) (by decide) rfl)) mr.1 ?_
    refine X_icmp_lt dX12_encode_9 (tgt := 14) rfl (fun c2 => ?_) (fun c2 => ?_)
    · refine X_aload_n dX12_encode_14 rfl ?_
      refine X_getfield (ci := 12) (k := 81) (v := vi (M 0 81)) dX12_encode_15 rfl (by decide) kf_RX12_473 (congrArg vi (MR.in_ mr (k := 81) (by decide) rfl)) mr.1 ?_
      refine X_bipush dX12_encode_18 (by decide) (by decide) ?_
      refine X_icmp_ne dX12_encode_20 (tgt := 26) rfl (fun c3 => ?_) (fun c3 => ?_)
      · refine X_bipush dX12_encode_26 (by decide) (by decide) ?_
        refine X_aload_n dX12_encode_28 rfl ?_
        refine X_getfield (ci := 12) (k := 81) (v := vi (M 0 81)) dX12_encode_29 rfl (by decide) kf_RX12_473 (congrArg vi (MR.in_ mr (k := 81) (by decide) rfl)) mr.1 ?_
        refine X_imulN dX12_encode_32 (((hB.2 c1).1 c2).1 c3).1 (((hB.2 c1).1 c2).1 c3).2.1 ?_
        refine X_istore_n dX12_encode_33 (by decide) rfl ?_
        refine X_iconst dX12_encode_34 (by decide) ?_
        refine X_istore_n dX12_encode_35 (by decide) rfl ?_
        refine X_iconst dX12_encode_36 (by decide) ?_
        refine X_istore dX12_encode_37 (by decide) rfl ?_
        refine X_iconst dX12_encode_39 (by decide) ?_
        refine X_istore dX12_encode_40 (by decide) rfl ?_
        refine X_aload_n dX12_encode_42 rfl ?_
        refine X_iconst dX12_encode_43 (by decide) ?_
        refine X_putfield (ci := 12) (k := 5) (z := 0) dX12_encode_44 rfl (by decide) kf_RX12_195 (Or.inl rfl) (Or.inl rfl) rfl (fun hv => hv) mr.1 ?_
        refine X_aload_n dX12_encode_47 rfl ?_
        refine X_invV (ci := 12) (as := []) (st := []) okX12_next dX12_encode_48 km_RX12_285 rfl rfl (Nat.le_of_ble_eq_true rfl) rfl rfl (MR.putI mr (k := 5) (z := 0) (by decide)).1 (CT.of d 0 0 (hcl n_next_0 rfl [] _ _ _ (((hB.2 c1).1 c2).1 c3).2.2 (MR.putI mr (k := 5) (z := 0) (by decide))) (Nat.le_refl _) (Nat.zero_le _) (Nat.zero_le _) (fun z4 S4 V4 hq4 => ?_))
        obtain ⟨rfl, M4, hc5, mr4, hf4⟩ := hq4
        have mf4 := MF.trans (MF.putI mf (k := 5) (z := 0)) hf4
        exact hrc n_encode_51 [x1, 61 * (M 0 81), 0, 0, 1] _ _ hc5 mr4 mf4
      · refine X_bipush dX12_encode_23 (by decide) (by decide) ?_
        exact X_ret (z := (-2)) dX12_encode_25 rfl (fun hv => vok_h hv) ⟨rfl, _, (((hB.2 c1).1 c2).2 c3), mr, mf⟩
    · refine X_iconst dX12_encode_12 (by decide) ?_
      exact X_ret (z := (-1)) dX12_encode_13 rfl (fun hv => vok_h hv) ⟨rfl, _, ((hB.2 c1).2 c2), mr, mf⟩
def B_encode_51 (rc : MP) (cl : MC) (Q : Int → Mem → Prop) (d : Nat) (x1 x2 x3 x4 x5 : Int) (M : Mem) : Prop := (x5 = 0 → (x5 = 0 → -2147483648 ≤ (-10) - (M 0 4) ∧ (-10) - (M 0 4) ≤ 2147483647 ∧ Q ((-10) - (M 0 4)) (up M 0 2 0)) ∧ (¬ (x5 = 0) → (x3 ≠ 0 → 0 ≤ (M 0 81) ∧ (M 0 81) < 20 ∧ -2147483648 ≤ (M 0 81) + 1 ∧ (M 0 81) + 1 ≤ 2147483647 ∧ -2147483648 ≤ ((M 0 81) + 1) - 1 ∧ ((M 0 81) + 1) - 1 ≤ 2147483647 ∧ Q (((M 0 81) + 1) - 1) (up (up (up (up M 0 2 0) 77 (M 0 81) x1) 78 (M 0 81) x3) 0 81 ((M 0 81) + 1))) ∧ (¬ (x3 ≠ 0) → -2147483648 ≤ (-10) - (M 0 4) ∧ (-10) - (M 0 4) ≤ 2147483647 ∧ Q ((-10) - (M 0 4)) (up M 0 2 0)))) ∧ (¬ (x5 = 0) → ((M 0 3) = 0 → (x5 = 0 → -2147483648 ≤ (-10) - (M 0 4) ∧ (-10) - (M 0 4) ≤ 2147483647 ∧ Q ((-10) - (M 0 4)) (up M 0 2 0)) ∧ (¬ (x5 = 0) → (x3 ≠ 0 → 0 ≤ (M 0 81) ∧ (M 0 81) < 20 ∧ -2147483648 ≤ (M 0 81) + 1 ∧ (M 0 81) + 1 ≤ 2147483647 ∧ -2147483648 ≤ ((M 0 81) + 1) - 1 ∧ ((M 0 81) + 1) - 1 ≤ 2147483647 ∧ Q (((M 0 81) + 1) - 1) (up (up (up (up M 0 2 0) 77 (M 0 81) x1) 78 (M 0 81) x3) 0 81 ((M 0 81) + 1))) ∧ (¬ (x3 ≠ 0) → -2147483648 ≤ (-10) - (M 0 4) ∧ (-10) - (M 0 4) ≤ 2147483647 ∧ Q ((-10) - (M 0 4)) (up M 0 2 0)))) ∧ (¬ ((M 0 3) = 0) → (x4 = 0 → cl n_constantHere_0 [x1] M (fun z8 M8 => (z8 = (-1) → -2147483648 ≤ x2 + x3 ∧ x2 + x3 ≤ 2147483647 ∧ 0 ≤ (x2 + x3) ∧ (x2 + x3) < 1220 ∧ -2147483648 ≤ x3 + 1 ∧ x3 + 1 ≤ 2147483647 ∧ rc n_encode_51 [x1, x2, x3 + 1, 1, 0] (up (up M8 79 (x2 + x3) z8) 80 (x2 + x3) 0)) ∧ (¬ (z8 = (-1)) → (60 ≤ x3 → -2147483648 ≤ x2 + x3 ∧ x2 + x3 ≤ 2147483647 ∧ 0 ≤ (x2 + x3) ∧ (x2 + x3) < 1220 ∧ -2147483648 ≤ x3 + 1 ∧ x3 + 1 ≤ 2147483647 ∧ rc n_encode_51 [x1, x2, x3 + 1, 1, 0] (up (up M8 79 (x2 + x3) z8) 80 (x2 + x3) 0)) ∧ (¬ (60 ≤ x3) → -2147483648 ≤ x2 + x3 ∧ x2 + x3 ≤ 2147483647 ∧ 0 ≤ (x2 + x3) ∧ (x2 + x3) < 1220 ∧ -2147483648 ≤ x3 + 1 ∧ x3 + 1 ≤ 2147483647 ∧ cl n_next_0 [] (up (up M8 79 (x2 + x3) z8) 80 (x2 + x3) 0) (fun z12 M12 => rc n_encode_51 [x1, x2, x3 + 1, 1, 1] M12))))) ∧ (¬ (x4 = 0) → ((M 0 3) ≠ 3 → cl n_constantHere_0 [x1] M (fun z15 M15 => (z15 = (-1) → -2147483648 ≤ x2 + x3 ∧ x2 + x3 ≤ 2147483647 ∧ 0 ≤ (x2 + x3) ∧ (x2 + x3) < 1220 ∧ -2147483648 ≤ x3 + 1 ∧ x3 + 1 ≤ 2147483647 ∧ rc n_encode_51 [x1, x2, x3 + 1, 1, 0] (up (up M15 79 (x2 + x3) z15) 80 (x2 + x3) 0)) ∧ (¬ (z15 = (-1)) → (60 ≤ x3 → -2147483648 ≤ x2 + x3 ∧ x2 + x3 ≤ 2147483647 ∧ 0 ≤ (x2 + x3) ∧ (x2 + x3) < 1220 ∧ -2147483648 ≤ x3 + 1 ∧ x3 + 1 ≤ 2147483647 ∧ rc n_encode_51 [x1, x2, x3 + 1, 1, 0] (up (up M15 79 (x2 + x3) z15) 80 (x2 + x3) 0)) ∧ (¬ (60 ≤ x3) → -2147483648 ≤ x2 + x3 ∧ x2 + x3 ≤ 2147483647 ∧ 0 ≤ (x2 + x3) ∧ (x2 + x3) < 1220 ∧ -2147483648 ≤ x3 + 1 ∧ x3 + 1 ≤ 2147483647 ∧ cl n_next_0 [] (up (up M15 79 (x2 + x3) z15) 80 (x2 + x3) 0) (fun z19 M19 => rc n_encode_51 [x1, x2, x3 + 1, 1, 1] M19))))) ∧ (¬ ((M 0 3) ≠ 3) → -2147483648 ≤ x2 + x3 ∧ x2 + x3 ≤ 2147483647 ∧ -2147483648 ≤ (x2 + x3) - 1 ∧ (x2 + x3) - 1 ≤ 2147483647 ∧ 0 ≤ ((x2 + x3) - 1) ∧ ((x2 + x3) - 1) < 1220 ∧ (x5 = 0 → rc n_encode_51 [x1, x2, x3, 0, x5] (up M 80 ((x2 + x3) - 1) (M 0 6))) ∧ (¬ (x5 = 0) → cl n_next_0 [] (up M 80 ((x2 + x3) - 1) (M 0 6)) (fun z22 M22 => rc n_encode_51 [x1, x2, x3, 0, x5] M22))))))
set_option maxRecDepth 10000 in
theorem s_encode_51 {l : Launch} {G : GT} {m : Int} {a : Int → Int} {d mc ms : Nat} {S : Sh} {Q : Int → Mem → Prop} {rc : MP} {cl : MC} {V0 V M : Mem} {x1 x2 x3 x4 x5 : Int} (hrc : RCok l G m a S V0 Q d mc ms rc) (hcl : CLok l G m a S d cl) (mr : MR m a S V M) (mf : MF m a V0 V) (hB : B_encode_51 rc cl Q d x1 x2 x3 x4 x5 M) : XJ l G bX12_encode (Qm m a S V0 Q) (d + 1) 51 [vr m, vi x1, vi x2, vi x3, vi x4, vi x5, vu] [] S V mc ms := by
  unfold B_encode_51 at hB
  refine X_iload dX12_encode_51 rfl ?_
  refine X_if_eq dX12_encode_53 (tgt := 159) rfl (fun c1 => ?_) (fun c1 => ?_)
  · refine X_aload_n dX12_encode_159 rfl ?_
    refine X_iconst dX12_encode_160 (by decide) ?_
    refine X_putfield (ci := 12) (k := 2) (z := 0) dX12_encode_161 rfl (by decide) kf_RX12_192 (Or.inl rfl) (Or.inl rfl) rfl (fun hv => hv) mr.1 ?_
    refine X_iload dX12_encode_164 rfl ?_
    refine X_if_eq dX12_encode_166 (tgt := 173) rfl (fun c2 => ?_) (fun c2 => ?_)
    · refine X_bipush dX12_encode_173 (by decide) (by decide) ?_
      refine X_aload_n dX12_encode_175 rfl ?_
      refine X_getfield (ci := 12) (k := 4) (v := vi (M 0 4)) dX12_encode_176 rfl (by decide) kf_RX12_198 (congrArg vi (MR.in_ (MR.putI mr (k := 2) (z := 0) (by decide)) (k := 4) (by decide) (up_ne (Or.inr (by decide))))) (MR.putI mr (k := 2) (z := 0) (by decide)).1 ?_
      refine X_isubN dX12_encode_179 ((hB.1 c1).1 c2).1 ((hB.1 c1).1 c2).2.1 ?_
      exact X_ret (z := ((-10) - (M 0 4))) dX12_encode_180 rfl (fun hv => vok_h hv) ⟨rfl, _, ((hB.1 c1).1 c2).2.2, (MR.putI mr (k := 2) (z := 0) (by decide)), (MF.putI mf (k := 2) (z := 0))⟩
    · refine X_iload_n dX12_encode_169 rfl ?_
      refine X_if_ne dX12_encode_170 (tgt := 181) rfl (fun c3 => ?_) (fun c3 => ?_)
      · refine X_aload_n dX12_encode_181 rfl ?_
        refine X_getfield (ci := 12) (k := 77) (v := vr (a 77)) dX12_encode_182 rfl (by decide) kf_RX12_173 (congrArg vr (MR.ar (MR.putI mr (k := 2) (z := 0) (by decide)) (k := 77) (by decide)).1) (MR.putI mr (k := 2) (z := 0) (by decide)).1 ?_
        refine X_aload_n dX12_encode_185 rfl ?_
        refine X_getfield (ci := 12) (k := 81) (v := vi (M 0 81)) dX12_encode_186 rfl (by decide) kf_RX12_473 (congrArg vi (MR.in_ (MR.putI mr (k := 2) (z := 0) (by decide)) (k := 81) (by decide) (up_ne (Or.inr (by decide))))) (MR.putI mr (k := 2) (z := 0) (by decide)).1 ?_
        refine X_iload_n dX12_encode_189 rfl ?_
        refine X_iastore dX12_encode_190 ((MR.ar (MR.putI mr (k := 2) (z := 0) (by decide)) (k := 77) (by decide)).2.1.trans (by decide)) (((hB.1 c1).2 c2).1 c3).1 (lt_eq (((hB.1 c1).2 c2).1 c3).2.1 (MR.ln (MR.putI mr (k := 2) (z := 0) (by decide)) (k := 77) (by decide) (by decide))) ?_
        refine X_aload_n dX12_encode_191 rfl ?_
        refine X_getfield (ci := 12) (k := 78) (v := vr (a 78)) dX12_encode_192 rfl (by decide) kf_RX12_176 (congrArg vr (MR.ar (MR.putA (MR.putI mr (k := 2) (z := 0) (by decide)) (k := 77) (j := M 0 81) (z := x1) (by decide)) (k := 78) (by decide)).1) (MR.putA (MR.putI mr (k := 2) (z := 0) (by decide)) (k := 77) (j := M 0 81) (z := x1) (by decide)).1 ?_
        refine X_aload_n dX12_encode_195 rfl ?_
        refine X_getfield (ci := 12) (k := 81) (v := vi (M 0 81)) dX12_encode_196 rfl (by decide) kf_RX12_473 (congrArg vi (MR.in_ (MR.putA (MR.putI mr (k := 2) (z := 0) (by decide)) (k := 77) (j := M 0 81) (z := x1) (by decide)) (k := 81) (by decide) ((up_ne (Or.inl (by decide))).trans (up_ne (Or.inr (by decide)))))) (MR.putA (MR.putI mr (k := 2) (z := 0) (by decide)) (k := 77) (j := M 0 81) (z := x1) (by decide)).1 ?_
        refine X_iload_n dX12_encode_199 rfl ?_
        refine X_iastore dX12_encode_200 ((MR.ar (MR.putA (MR.putI mr (k := 2) (z := 0) (by decide)) (k := 77) (j := M 0 81) (z := x1) (by decide)) (k := 78) (by decide)).2.1.trans (by decide)) (((hB.1 c1).2 c2).1 c3).1 (lt_eq (((hB.1 c1).2 c2).1 c3).2.1 (MR.ln (MR.putA (MR.putI mr (k := 2) (z := 0) (by decide)) (k := 77) (j := M 0 81) (z := x1) (by decide)) (k := 78) (by decide) (by decide))) ?_
        refine X_aload_n dX12_encode_201 rfl ?_
        refine X_dup dX12_encode_202 (rv_cat _) ?_
        refine X_getfield (ci := 12) (k := 81) (v := vi (M 0 81)) dX12_encode_203 rfl (by decide) kf_RX12_473 (congrArg vi (MR.in_ (MR.putA (MR.putA (MR.putI mr (k := 2) (z := 0) (by decide)) (k := 77) (j := M 0 81) (z := x1) (by decide)) (k := 78) (j := M 0 81) (z := x3) (by decide)) (k := 81) (by decide) ((up_ne (Or.inl (by decide))).trans ((up_ne (Or.inl (by decide))).trans (up_ne (Or.inr (by decide))))))) (MR.putA (MR.putA (MR.putI mr (k := 2) (z := 0) (by decide)) (k := 77) (j := M 0 81) (z := x1) (by decide)) (k := 78) (j := M 0 81) (z := x3) (by decide)).1 ?_
        refine X_iconst dX12_encode_206 (by decide) ?_
        refine X_iaddN dX12_encode_207 (((hB.1 c1).2 c2).1 c3).2.2.1 (((hB.1 c1).2 c2).1 c3).2.2.2.1 ?_
        refine X_putfield (ci := 12) (k := 81) (z := ((M 0 81) + 1)) dX12_encode_208 rfl (by decide) kf_RX12_473 (Or.inl rfl) (Or.inl rfl) rfl (fun hv => hv) (MR.putA (MR.putA (MR.putI mr (k := 2) (z := 0) (by decide)) (k := 77) (j := M 0 81) (z := x1) (by decide)) (k := 78) (j := M 0 81) (z := x3) (by decide)).1 ?_
        refine X_aload_n dX12_encode_211 rfl ?_
        refine X_getfield (ci := 12) (k := 81) (v := vi ((M 0 81) + 1)) dX12_encode_212 rfl (by decide) kf_RX12_473 (congrArg vi (MR.in_ (MR.putI (MR.putA (MR.putA (MR.putI mr (k := 2) (z := 0) (by decide)) (k := 77) (j := M 0 81) (z := x1) (by decide)) (k := 78) (j := M 0 81) (z := x3) (by decide)) (k := 81) (z := (M 0 81) + 1) (by decide)) (k := 81) (by decide) (up_eq))) (MR.putI (MR.putA (MR.putA (MR.putI mr (k := 2) (z := 0) (by decide)) (k := 77) (j := M 0 81) (z := x1) (by decide)) (k := 78) (j := M 0 81) (z := x3) (by decide)) (k := 81) (z := (M 0 81) + 1) (by decide)).1 ?_
        refine X_iconst dX12_encode_215 (by decide) ?_
        refine X_isubN dX12_encode_216 (((hB.1 c1).2 c2).1 c3).2.2.2.2.1 (((hB.1 c1).2 c2).1 c3).2.2.2.2.2.1 ?_
        exact X_ret (z := (((M 0 81) + 1) - 1)) dX12_encode_217 rfl (fun hv => vok_h hv) ⟨rfl, _, (((hB.1 c1).2 c2).1 c3).2.2.2.2.2.2, (MR.putI (MR.putA (MR.putA (MR.putI mr (k := 2) (z := 0) (by decide)) (k := 77) (j := M 0 81) (z := x1) (by decide)) (k := 78) (j := M 0 81) (z := x3) (by decide)) (k := 81) (z := (M 0 81) + 1) (by decide)), (MF.putI (MF.putA (MF.putA (MF.putI mf (k := 2) (z := 0)) (k := 77) (j := M 0 81) (z := x1) (by decide)) (k := 78) (j := M 0 81) (z := x3) (by decide)) (k := 81) (z := (M 0 81) + 1))⟩
      · refine X_bipush dX12_encode_173 (by decide) (by decide) ?_
        refine X_aload_n dX12_encode_175 rfl ?_
        refine X_getfield (ci := 12) (k := 4) (v := vi (M 0 4)) dX12_encode_176 rfl (by decide) kf_RX12_198 (congrArg vi (MR.in_ (MR.putI mr (k := 2) (z := 0) (by decide)) (k := 4) (by decide) (up_ne (Or.inr (by decide))))) (MR.putI mr (k := 2) (z := 0) (by decide)).1 ?_
        refine X_isubN dX12_encode_179 (((hB.1 c1).2 c2).2 c3).1 (((hB.1 c1).2 c2).2 c3).2.1 ?_
        exact X_ret (z := ((-10) - (M 0 4))) dX12_encode_180 rfl (fun hv => vok_h hv) ⟨rfl, _, (((hB.1 c1).2 c2).2 c3).2.2, (MR.putI mr (k := 2) (z := 0) (by decide)), (MF.putI mf (k := 2) (z := 0))⟩
  · refine X_aload_n dX12_encode_56 rfl ?_
    refine X_getfield (ci := 12) (k := 3) (v := vi (M 0 3)) dX12_encode_57 rfl (by decide) kf_RX12_205 (congrArg vi (MR.in_ mr (k := 3) (by decide) rfl)) mr.1 ?_
    refine X_if_eq dX12_encode_60 (tgt := 159) rfl (fun c4 => ?_) (fun c4 => ?_)
    · refine X_aload_n dX12_encode_159 rfl ?_
      refine X_iconst dX12_encode_160 (by decide) ?_
      refine X_putfield (ci := 12) (k := 2) (z := 0) dX12_encode_161 rfl (by decide) kf_RX12_192 (Or.inl rfl) (Or.inl rfl) rfl (fun hv => hv) mr.1 ?_
      refine X_iload dX12_encode_164 rfl ?_
      refine X_if_eq dX12_encode_166 (tgt := 173) rfl (fun c5 => ?_) (fun c5 => ?_)
      · refine X_bipush dX12_encode_173 (by decide) (by decide) ?_
        refine X_aload_n dX12_encode_175 rfl ?_
        refine X_getfield (ci := 12) (k := 4) (v := vi (M 0 4)) dX12_encode_176 rfl (by decide) kf_RX12_198 (congrArg vi (MR.in_ (MR.putI mr (k := 2) (z := 0) (by decide)) (k := 4) (by decide) (up_ne (Or.inr (by decide))))) (MR.putI mr (k := 2) (z := 0) (by decide)).1 ?_
        refine X_isubN dX12_encode_179 (((hB.2 c1).1 c4).1 c5).1 (((hB.2 c1).1 c4).1 c5).2.1 ?_
        exact X_ret (z := ((-10) - (M 0 4))) dX12_encode_180 rfl (fun hv => vok_h hv) ⟨rfl, _, (((hB.2 c1).1 c4).1 c5).2.2, (MR.putI mr (k := 2) (z := 0) (by decide)), (MF.putI mf (k := 2) (z := 0))⟩
      · refine X_iload_n dX12_encode_169 rfl ?_
        refine X_if_ne dX12_encode_170 (tgt := 181) rfl (fun c6 => ?_) (fun c6 => ?_)
        · refine X_aload_n dX12_encode_181 rfl ?_
          refine X_getfield (ci := 12) (k := 77) (v := vr (a 77)) dX12_encode_182 rfl (by decide) kf_RX12_173 (congrArg vr (MR.ar (MR.putI mr (k := 2) (z := 0) (by decide)) (k := 77) (by decide)).1) (MR.putI mr (k := 2) (z := 0) (by decide)).1 ?_
          refine X_aload_n dX12_encode_185 rfl ?_
          refine X_getfield (ci := 12) (k := 81) (v := vi (M 0 81)) dX12_encode_186 rfl (by decide) kf_RX12_473 (congrArg vi (MR.in_ (MR.putI mr (k := 2) (z := 0) (by decide)) (k := 81) (by decide) (up_ne (Or.inr (by decide))))) (MR.putI mr (k := 2) (z := 0) (by decide)).1 ?_
          refine X_iload_n dX12_encode_189 rfl ?_
          refine X_iastore dX12_encode_190 ((MR.ar (MR.putI mr (k := 2) (z := 0) (by decide)) (k := 77) (by decide)).2.1.trans (by decide)) ((((hB.2 c1).1 c4).2 c5).1 c6).1 (lt_eq ((((hB.2 c1).1 c4).2 c5).1 c6).2.1 (MR.ln (MR.putI mr (k := 2) (z := 0) (by decide)) (k := 77) (by decide) (by decide))) ?_
          refine X_aload_n dX12_encode_191 rfl ?_
          refine X_getfield (ci := 12) (k := 78) (v := vr (a 78)) dX12_encode_192 rfl (by decide) kf_RX12_176 (congrArg vr (MR.ar (MR.putA (MR.putI mr (k := 2) (z := 0) (by decide)) (k := 77) (j := M 0 81) (z := x1) (by decide)) (k := 78) (by decide)).1) (MR.putA (MR.putI mr (k := 2) (z := 0) (by decide)) (k := 77) (j := M 0 81) (z := x1) (by decide)).1 ?_
          refine X_aload_n dX12_encode_195 rfl ?_
          refine X_getfield (ci := 12) (k := 81) (v := vi (M 0 81)) dX12_encode_196 rfl (by decide) kf_RX12_473 (congrArg vi (MR.in_ (MR.putA (MR.putI mr (k := 2) (z := 0) (by decide)) (k := 77) (j := M 0 81) (z := x1) (by decide)) (k := 81) (by decide) ((up_ne (Or.inl (by decide))).trans (up_ne (Or.inr (by decide)))))) (MR.putA (MR.putI mr (k := 2) (z := 0) (by decide)) (k := 77) (j := M 0 81) (z := x1) (by decide)).1 ?_
          refine X_iload_n dX12_encode_199 rfl ?_
          refine X_iastore dX12_encode_200 ((MR.ar (MR.putA (MR.putI mr (k := 2) (z := 0) (by decide)) (k := 77) (j := M 0 81) (z := x1) (by decide)) (k := 78) (by decide)).2.1.trans (by decide)) ((((hB.2 c1).1 c4).2 c5).1 c6).1 (lt_eq ((((hB.2 c1).1 c4).2 c5).1 c6).2.1 (MR.ln (MR.putA (MR.putI mr (k := 2) (z := 0) (by decide)) (k := 77) (j := M 0 81) (z := x1) (by decide)) (k := 78) (by decide) (by decide))) ?_
          refine X_aload_n dX12_encode_201 rfl ?_
          refine X_dup dX12_encode_202 (rv_cat _) ?_
          refine X_getfield (ci := 12) (k := 81) (v := vi (M 0 81)) dX12_encode_203 rfl (by decide) kf_RX12_473 (congrArg vi (MR.in_ (MR.putA (MR.putA (MR.putI mr (k := 2) (z := 0) (by decide)) (k := 77) (j := M 0 81) (z := x1) (by decide)) (k := 78) (j := M 0 81) (z := x3) (by decide)) (k := 81) (by decide) ((up_ne (Or.inl (by decide))).trans ((up_ne (Or.inl (by decide))).trans (up_ne (Or.inr (by decide))))))) (MR.putA (MR.putA (MR.putI mr (k := 2) (z := 0) (by decide)) (k := 77) (j := M 0 81) (z := x1) (by decide)) (k := 78) (j := M 0 81) (z := x3) (by decide)).1 ?_
          refine X_iconst dX12_encode_206 (by decide) ?_
          refine X_iaddN dX12_encode_207 ((((hB.2 c1).1 c4).2 c5).1 c6).2.2.1 ((((hB.2 c1).1 c4).2 c5).1 c6).2.2.2.1 ?_
          refine X_putfield (ci := 12) (k := 81) (z := ((M 0 81) + 1)) dX12_encode_208 rfl (by decide) kf_RX12_473 (Or.inl rfl) (Or.inl rfl) rfl (fun hv => hv) (MR.putA (MR.putA (MR.putI mr (k := 2) (z := 0) (by decide)) (k := 77) (j := M 0 81) (z := x1) (by decide)) (k := 78) (j := M 0 81) (z := x3) (by decide)).1 ?_
          refine X_aload_n dX12_encode_211 rfl ?_
          refine X_getfield (ci := 12) (k := 81) (v := vi ((M 0 81) + 1)) dX12_encode_212 rfl (by decide) kf_RX12_473 (congrArg vi (MR.in_ (MR.putI (MR.putA (MR.putA (MR.putI mr (k := 2) (z := 0) (by decide)) (k := 77) (j := M 0 81) (z := x1) (by decide)) (k := 78) (j := M 0 81) (z := x3) (by decide)) (k := 81) (z := (M 0 81) + 1) (by decide)) (k := 81) (by decide) (up_eq))) (MR.putI (MR.putA (MR.putA (MR.putI mr (k := 2) (z := 0) (by decide)) (k := 77) (j := M 0 81) (z := x1) (by decide)) (k := 78) (j := M 0 81) (z := x3) (by decide)) (k := 81) (z := (M 0 81) + 1) (by decide)).1 ?_
          refine X_iconst dX12_encode_215 (by decide) ?_
          refine X_isubN dX12_encode_216 ((((hB.2 c1).1 c4).2 c5).1 c6).2.2.2.2.1 ((((hB.2 c1).1 c4).2 c5).1 c6).2.2.2.2.2.1 ?_
          exact X_ret (z := (((M 0 81) + 1) - 1)) dX12_encode_217 rfl (fun hv => vok_h hv) ⟨rfl, _, ((((hB.2 c1).1 c4).2 c5).1 c6).2.2.2.2.2.2, (MR.putI (MR.putA (MR.putA (MR.putI mr (k := 2) (z := 0) (by decide)) (k := 77) (j := M 0 81) (z := x1) (by decide)) (k := 78) (j := M 0 81) (z := x3) (by decide)) (k := 81) (z := (M 0 81) + 1) (by decide)), (MF.putI (MF.putA (MF.putA (MF.putI mf (k := 2) (z := 0)) (k := 77) (j := M 0 81) (z := x1) (by decide)) (k := 78) (j := M 0 81) (z := x3) (by decide)) (k := 81) (z := (M 0 81) + 1))⟩
        · refine X_bipush dX12_encode_173 (by decide) (by decide) ?_
          refine X_aload_n dX12_encode_175 rfl ?_
          refine X_getfield (ci := 12) (k := 4) (v := vi (M 0 4)) dX12_encode_176 rfl (by decide) kf_RX12_198 (congrArg vi (MR.in_ (MR.putI mr (k := 2) (z := 0) (by decide)) (k := 4) (by decide) (up_ne (Or.inr (by decide))))) (MR.putI mr (k := 2) (z := 0) (by decide)).1 ?_
          refine X_isubN dX12_encode_179 ((((hB.2 c1).1 c4).2 c5).2 c6).1 ((((hB.2 c1).1 c4).2 c5).2 c6).2.1 ?_
          exact X_ret (z := ((-10) - (M 0 4))) dX12_encode_180 rfl (fun hv => vok_h hv) ⟨rfl, _, ((((hB.2 c1).1 c4).2 c5).2 c6).2.2, (MR.putI mr (k := 2) (z := 0) (by decide)), (MF.putI mf (k := 2) (z := 0))⟩
    · refine X_iload dX12_encode_63 rfl ?_
      refine X_if_eq dX12_encode_65 (tgt := 96) rfl (fun c7 => ?_) (fun c7 => ?_)
      · refine X_aload_n dX12_encode_96 rfl ?_
        refine X_iload_n dX12_encode_97 rfl ?_
        refine X_invV (ci := 12) (as := [vi x1]) (st := []) okX12_constantHere dX12_encode_98 km_RX12_476 rfl rfl (Nat.le_of_ble_eq_true rfl) rfl rfl mr.1 (CT.of d 0 0 (hcl n_constantHere_0 rfl [x1] _ _ _ (((hB.2 c1).2 c4).1 c7) mr) (Nat.le_refl _) (Nat.zero_le _) (Nat.zero_le _) (fun z8 S8 V8 hq8 => ?_))
        obtain ⟨rfl, M8, hc9, mr8, hf8⟩ := hq8
        have mf8 := MF.trans mf hf8
        refine X_istore dX12_encode_101 (by decide) rfl ?_
        refine X_iload dX12_encode_103 rfl ?_
        refine X_iconst dX12_encode_105 (by decide) ?_
        refine X_icmp_eq dX12_encode_106 (tgt := 119) rfl (fun c10 => ?_) (fun c10 => ?_)
        · refine X_iconst dX12_encode_119 (by decide) ?_
          refine X_istore dX12_encode_120 (by decide) rfl ?_
          refine X_aload_n dX12_encode_122 rfl ?_
          refine X_getfield (ci := 12) (k := 79) (v := vr (a 79)) dX12_encode_123 rfl (by decide) kf_RX12_179 (congrArg vr (MR.ar mr8 (k := 79) (by decide)).1) mr8.1 ?_
          refine X_iload_n dX12_encode_126 rfl ?_
          refine X_iload_n dX12_encode_127 rfl ?_
          refine X_iaddN dX12_encode_128 (hc9.1 c10).1 (hc9.1 c10).2.1 ?_
          refine X_iload dX12_encode_129 rfl ?_
          refine X_iastore dX12_encode_131 ((MR.ar mr8 (k := 79) (by decide)).2.1.trans (by decide)) (hc9.1 c10).2.2.1 (lt_eq (hc9.1 c10).2.2.2.1 (MR.ln mr8 (k := 79) (by decide) (by decide))) ?_
          refine X_aload_n dX12_encode_132 rfl ?_
          refine X_getfield (ci := 12) (k := 80) (v := vr (a 80)) dX12_encode_133 rfl (by decide) kf_RX12_182 (congrArg vr (MR.ar (MR.putA mr8 (k := 79) (j := x2 + x3) (z := z8) (by decide)) (k := 80) (by decide)).1) (MR.putA mr8 (k := 79) (j := x2 + x3) (z := z8) (by decide)).1 ?_
          refine X_iload_n dX12_encode_136 rfl ?_
          refine X_iload_n dX12_encode_137 rfl ?_
          refine X_iaddN dX12_encode_138 (hc9.1 c10).1 (hc9.1 c10).2.1 ?_
          refine X_iconst dX12_encode_139 (by decide) ?_
          refine X_iastore dX12_encode_140 ((MR.ar (MR.putA mr8 (k := 79) (j := x2 + x3) (z := z8) (by decide)) (k := 80) (by decide)).2.1.trans (by decide)) (hc9.1 c10).2.2.1 (lt_eq (hc9.1 c10).2.2.2.1 (MR.ln (MR.putA mr8 (k := 79) (j := x2 + x3) (z := z8) (by decide)) (k := 80) (by decide) (by decide))) ?_
          refine X_iincN dX12_encode_141 rfl (by decide) rfl (e := x3 + 1) rfl (hc9.1 c10).2.2.2.2.1 (hc9.1 c10).2.2.2.2.2.1 ?_
          refine X_iconst dX12_encode_144 (by decide) ?_
          refine X_istore dX12_encode_145 (by decide) rfl ?_
          refine X_iload dX12_encode_147 rfl ?_
          refine X_if_eq dX12_encode_149 (tgt := 51) rfl (fun _ => ?_) (fun c => absurd (by decide) c)
          exact X_weak [false, false, false, false, false, false, true] (hrc n_encode_51 [x1, x2, x3 + 1, 1, 0] _ _ (hc9.1 c10).2.2.2.2.2.2 (MR.putA (MR.putA mr8 (k := 79) (j := x2 + x3) (z := z8) (by decide)) (k := 80) (j := x2 + x3) (z := 0) (by decide)) (MF.putA (MF.putA mf8 (k := 79) (j := x2 + x3) (z := z8) (by decide)) (k := 80) (j := x2 + x3) (z := 0) (by decide)))
        · refine X_iload_n dX12_encode_109 rfl ?_
          refine X_bipush dX12_encode_110 (by decide) (by decide) ?_
          refine X_icmp_ge dX12_encode_112 (tgt := 119) rfl (fun c11 => ?_) (fun c11 => ?_)
          · refine X_iconst dX12_encode_119 (by decide) ?_
            refine X_istore dX12_encode_120 (by decide) rfl ?_
            refine X_aload_n dX12_encode_122 rfl ?_
            refine X_getfield (ci := 12) (k := 79) (v := vr (a 79)) dX12_encode_123 rfl (by decide) kf_RX12_179 (congrArg vr (MR.ar mr8 (k := 79) (by decide)).1) mr8.1 ?_
            refine X_iload_n dX12_encode_126 rfl ?_
            refine X_iload_n dX12_encode_127 rfl ?_
            refine X_iaddN dX12_encode_128 ((hc9.2 c10).1 c11).1 ((hc9.2 c10).1 c11).2.1 ?_
            refine X_iload dX12_encode_129 rfl ?_
            refine X_iastore dX12_encode_131 ((MR.ar mr8 (k := 79) (by decide)).2.1.trans (by decide)) ((hc9.2 c10).1 c11).2.2.1 (lt_eq ((hc9.2 c10).1 c11).2.2.2.1 (MR.ln mr8 (k := 79) (by decide) (by decide))) ?_
            refine X_aload_n dX12_encode_132 rfl ?_
            refine X_getfield (ci := 12) (k := 80) (v := vr (a 80)) dX12_encode_133 rfl (by decide) kf_RX12_182 (congrArg vr (MR.ar (MR.putA mr8 (k := 79) (j := x2 + x3) (z := z8) (by decide)) (k := 80) (by decide)).1) (MR.putA mr8 (k := 79) (j := x2 + x3) (z := z8) (by decide)).1 ?_
            refine X_iload_n dX12_encode_136 rfl ?_
            refine X_iload_n dX12_encode_137 rfl ?_
            refine X_iaddN dX12_encode_138 ((hc9.2 c10).1 c11).1 ((hc9.2 c10).1 c11).2.1 ?_
            refine X_iconst dX12_encode_139 (by decide) ?_
            refine X_iastore dX12_encode_140 ((MR.ar (MR.putA mr8 (k := 79) (j := x2 + x3) (z := z8) (by decide)) (k := 80) (by decide)).2.1.trans (by decide)) ((hc9.2 c10).1 c11).2.2.1 (lt_eq ((hc9.2 c10).1 c11).2.2.2.1 (MR.ln (MR.putA mr8 (k := 79) (j := x2 + x3) (z := z8) (by decide)) (k := 80) (by decide) (by decide))) ?_
            refine X_iincN dX12_encode_141 rfl (by decide) rfl (e := x3 + 1) rfl ((hc9.2 c10).1 c11).2.2.2.2.1 ((hc9.2 c10).1 c11).2.2.2.2.2.1 ?_
            refine X_iconst dX12_encode_144 (by decide) ?_
            refine X_istore dX12_encode_145 (by decide) rfl ?_
            refine X_iload dX12_encode_147 rfl ?_
            refine X_if_eq dX12_encode_149 (tgt := 51) rfl (fun _ => ?_) (fun c => absurd (by decide) c)
            exact X_weak [false, false, false, false, false, false, true] (hrc n_encode_51 [x1, x2, x3 + 1, 1, 0] _ _ ((hc9.2 c10).1 c11).2.2.2.2.2.2 (MR.putA (MR.putA mr8 (k := 79) (j := x2 + x3) (z := z8) (by decide)) (k := 80) (j := x2 + x3) (z := 0) (by decide)) (MF.putA (MF.putA mf8 (k := 79) (j := x2 + x3) (z := z8) (by decide)) (k := 80) (j := x2 + x3) (z := 0) (by decide)))
          · refine X_iconst dX12_encode_115 (by decide) ?_
            refine X_goto dX12_encode_116 (tgt := 120) rfl ?_
            refine X_istore dX12_encode_120 (by decide) rfl ?_
            refine X_aload_n dX12_encode_122 rfl ?_
            refine X_getfield (ci := 12) (k := 79) (v := vr (a 79)) dX12_encode_123 rfl (by decide) kf_RX12_179 (congrArg vr (MR.ar mr8 (k := 79) (by decide)).1) mr8.1 ?_
            refine X_iload_n dX12_encode_126 rfl ?_
            refine X_iload_n dX12_encode_127 rfl ?_
            refine X_iaddN dX12_encode_128 ((hc9.2 c10).2 c11).1 ((hc9.2 c10).2 c11).2.1 ?_
            refine X_iload dX12_encode_129 rfl ?_
            refine X_iastore dX12_encode_131 ((MR.ar mr8 (k := 79) (by decide)).2.1.trans (by decide)) ((hc9.2 c10).2 c11).2.2.1 (lt_eq ((hc9.2 c10).2 c11).2.2.2.1 (MR.ln mr8 (k := 79) (by decide) (by decide))) ?_
            refine X_aload_n dX12_encode_132 rfl ?_
            refine X_getfield (ci := 12) (k := 80) (v := vr (a 80)) dX12_encode_133 rfl (by decide) kf_RX12_182 (congrArg vr (MR.ar (MR.putA mr8 (k := 79) (j := x2 + x3) (z := z8) (by decide)) (k := 80) (by decide)).1) (MR.putA mr8 (k := 79) (j := x2 + x3) (z := z8) (by decide)).1 ?_
            refine X_iload_n dX12_encode_136 rfl ?_
            refine X_iload_n dX12_encode_137 rfl ?_
            refine X_iaddN dX12_encode_138 ((hc9.2 c10).2 c11).1 ((hc9.2 c10).2 c11).2.1 ?_
            refine X_iconst dX12_encode_139 (by decide) ?_
            refine X_iastore dX12_encode_140 ((MR.ar (MR.putA mr8 (k := 79) (j := x2 + x3) (z := z8) (by decide)) (k := 80) (by decide)).2.1.trans (by decide)) ((hc9.2 c10).2 c11).2.2.1 (lt_eq ((hc9.2 c10).2 c11).2.2.2.1 (MR.ln (MR.putA mr8 (k := 79) (j := x2 + x3) (z := z8) (by decide)) (k := 80) (by decide) (by decide))) ?_
            refine X_iincN dX12_encode_141 rfl (by decide) rfl (e := x3 + 1) rfl ((hc9.2 c10).2 c11).2.2.2.2.1 ((hc9.2 c10).2 c11).2.2.2.2.2.1 ?_
            refine X_iconst dX12_encode_144 (by decide) ?_
            refine X_istore dX12_encode_145 (by decide) rfl ?_
            refine X_iload dX12_encode_147 rfl ?_
            refine X_if_eq dX12_encode_149 (tgt := 51) rfl (fun c => absurd c (by decide)) (fun _ => ?_)
            refine X_aload_n dX12_encode_152 rfl ?_
            refine X_invV (ci := 12) (as := []) (st := []) okX12_next dX12_encode_153 km_RX12_285 rfl rfl (Nat.le_of_ble_eq_true rfl) rfl rfl (MR.putA (MR.putA mr8 (k := 79) (j := x2 + x3) (z := z8) (by decide)) (k := 80) (j := x2 + x3) (z := 0) (by decide)).1 (CT.of d 0 0 (hcl n_next_0 rfl [] _ _ _ ((hc9.2 c10).2 c11).2.2.2.2.2.2 (MR.putA (MR.putA mr8 (k := 79) (j := x2 + x3) (z := z8) (by decide)) (k := 80) (j := x2 + x3) (z := 0) (by decide))) (Nat.le_refl _) (Nat.zero_le _) (Nat.zero_le _) (fun z12 S12 V12 hq12 => ?_))
            obtain ⟨rfl, M12, hc13, mr12, hf12⟩ := hq12
            have mf12 := MF.trans (MF.putA (MF.putA mf8 (k := 79) (j := x2 + x3) (z := z8) (by decide)) (k := 80) (j := x2 + x3) (z := 0) (by decide)) hf12
            refine X_goto dX12_encode_156 (tgt := 51) rfl ?_
            exact X_weak [false, false, false, false, false, false, true] (hrc n_encode_51 [x1, x2, x3 + 1, 1, 1] _ _ hc13 mr12 mf12)
      · refine X_aload_n dX12_encode_68 rfl ?_
        refine X_getfield (ci := 12) (k := 3) (v := vi (M 0 3)) dX12_encode_69 rfl (by decide) kf_RX12_205 (congrArg vi (MR.in_ mr (k := 3) (by decide) rfl)) mr.1 ?_
        refine X_iconst dX12_encode_72 (by decide) ?_
        refine X_icmp_ne dX12_encode_73 (tgt := 96) rfl (fun c14 => ?_) (fun c14 => ?_)
        · refine X_aload_n dX12_encode_96 rfl ?_
          refine X_iload_n dX12_encode_97 rfl ?_
          refine X_invV (ci := 12) (as := [vi x1]) (st := []) okX12_constantHere dX12_encode_98 km_RX12_476 rfl rfl (Nat.le_of_ble_eq_true rfl) rfl rfl mr.1 (CT.of d 0 0 (hcl n_constantHere_0 rfl [x1] _ _ _ ((((hB.2 c1).2 c4).2 c7).1 c14) mr) (Nat.le_refl _) (Nat.zero_le _) (Nat.zero_le _) (fun z15 S15 V15 hq15 => ?_))
          obtain ⟨rfl, M15, hc16, mr15, hf15⟩ := hq15
          have mf15 := MF.trans mf hf15
          refine X_istore dX12_encode_101 (by decide) rfl ?_
          refine X_iload dX12_encode_103 rfl ?_
          refine X_iconst dX12_encode_105 (by decide) ?_
          refine X_icmp_eq dX12_encode_106 (tgt := 119) rfl (fun c17 => ?_) (fun c17 => ?_)
          · refine X_iconst dX12_encode_119 (by decide) ?_
            refine X_istore dX12_encode_120 (by decide) rfl ?_
            refine X_aload_n dX12_encode_122 rfl ?_
            refine X_getfield (ci := 12) (k := 79) (v := vr (a 79)) dX12_encode_123 rfl (by decide) kf_RX12_179 (congrArg vr (MR.ar mr15 (k := 79) (by decide)).1) mr15.1 ?_
            refine X_iload_n dX12_encode_126 rfl ?_
            refine X_iload_n dX12_encode_127 rfl ?_
            refine X_iaddN dX12_encode_128 (hc16.1 c17).1 (hc16.1 c17).2.1 ?_
            refine X_iload dX12_encode_129 rfl ?_
            refine X_iastore dX12_encode_131 ((MR.ar mr15 (k := 79) (by decide)).2.1.trans (by decide)) (hc16.1 c17).2.2.1 (lt_eq (hc16.1 c17).2.2.2.1 (MR.ln mr15 (k := 79) (by decide) (by decide))) ?_
            refine X_aload_n dX12_encode_132 rfl ?_
            refine X_getfield (ci := 12) (k := 80) (v := vr (a 80)) dX12_encode_133 rfl (by decide) kf_RX12_182 (congrArg vr (MR.ar (MR.putA mr15 (k := 79) (j := x2 + x3) (z := z15) (by decide)) (k := 80) (by decide)).1) (MR.putA mr15 (k := 79) (j := x2 + x3) (z := z15) (by decide)).1 ?_
            refine X_iload_n dX12_encode_136 rfl ?_
            refine X_iload_n dX12_encode_137 rfl ?_
            refine X_iaddN dX12_encode_138 (hc16.1 c17).1 (hc16.1 c17).2.1 ?_
            refine X_iconst dX12_encode_139 (by decide) ?_
            refine X_iastore dX12_encode_140 ((MR.ar (MR.putA mr15 (k := 79) (j := x2 + x3) (z := z15) (by decide)) (k := 80) (by decide)).2.1.trans (by decide)) (hc16.1 c17).2.2.1 (lt_eq (hc16.1 c17).2.2.2.1 (MR.ln (MR.putA mr15 (k := 79) (j := x2 + x3) (z := z15) (by decide)) (k := 80) (by decide) (by decide))) ?_
            refine X_iincN dX12_encode_141 rfl (by decide) rfl (e := x3 + 1) rfl (hc16.1 c17).2.2.2.2.1 (hc16.1 c17).2.2.2.2.2.1 ?_
            refine X_iconst dX12_encode_144 (by decide) ?_
            refine X_istore dX12_encode_145 (by decide) rfl ?_
            refine X_iload dX12_encode_147 rfl ?_
            refine X_if_eq dX12_encode_149 (tgt := 51) rfl (fun _ => ?_) (fun c => absurd (by decide) c)
            exact X_weak [false, false, false, false, false, false, true] (hrc n_encode_51 [x1, x2, x3 + 1, 1, 0] _ _ (hc16.1 c17).2.2.2.2.2.2 (MR.putA (MR.putA mr15 (k := 79) (j := x2 + x3) (z := z15) (by decide)) (k := 80) (j := x2 + x3) (z := 0) (by decide)) (MF.putA (MF.putA mf15 (k := 79) (j := x2 + x3) (z := z15) (by decide)) (k := 80) (j := x2 + x3) (z := 0) (by decide)))
          · refine X_iload_n dX12_encode_109 rfl ?_
            refine X_bipush dX12_encode_110 (by decide) (by decide) ?_
            refine X_icmp_ge dX12_encode_112 (tgt := 119) rfl (fun c18 => ?_) (fun c18 => ?_)
            · refine X_iconst dX12_encode_119 (by decide) ?_
              refine X_istore dX12_encode_120 (by decide) rfl ?_
              refine X_aload_n dX12_encode_122 rfl ?_
              refine X_getfield (ci := 12) (k := 79) (v := vr (a 79)) dX12_encode_123 rfl (by decide) kf_RX12_179 (congrArg vr (MR.ar mr15 (k := 79) (by decide)).1) mr15.1 ?_
              refine X_iload_n dX12_encode_126 rfl ?_
              refine X_iload_n dX12_encode_127 rfl ?_
              refine X_iaddN dX12_encode_128 ((hc16.2 c17).1 c18).1 ((hc16.2 c17).1 c18).2.1 ?_
              refine X_iload dX12_encode_129 rfl ?_
              refine X_iastore dX12_encode_131 ((MR.ar mr15 (k := 79) (by decide)).2.1.trans (by decide)) ((hc16.2 c17).1 c18).2.2.1 (lt_eq ((hc16.2 c17).1 c18).2.2.2.1 (MR.ln mr15 (k := 79) (by decide) (by decide))) ?_
              refine X_aload_n dX12_encode_132 rfl ?_
              refine X_getfield (ci := 12) (k := 80) (v := vr (a 80)) dX12_encode_133 rfl (by decide) kf_RX12_182 (congrArg vr (MR.ar (MR.putA mr15 (k := 79) (j := x2 + x3) (z := z15) (by decide)) (k := 80) (by decide)).1) (MR.putA mr15 (k := 79) (j := x2 + x3) (z := z15) (by decide)).1 ?_
              refine X_iload_n dX12_encode_136 rfl ?_
              refine X_iload_n dX12_encode_137 rfl ?_
              refine X_iaddN dX12_encode_138 ((hc16.2 c17).1 c18).1 ((hc16.2 c17).1 c18).2.1 ?_
              refine X_iconst dX12_encode_139 (by decide) ?_
              refine X_iastore dX12_encode_140 ((MR.ar (MR.putA mr15 (k := 79) (j := x2 + x3) (z := z15) (by decide)) (k := 80) (by decide)).2.1.trans (by decide)) ((hc16.2 c17).1 c18).2.2.1 (lt_eq ((hc16.2 c17).1 c18).2.2.2.1 (MR.ln (MR.putA mr15 (k := 79) (j := x2 + x3) (z := z15) (by decide)) (k := 80) (by decide) (by decide))) ?_
              refine X_iincN dX12_encode_141 rfl (by decide) rfl (e := x3 + 1) rfl ((hc16.2 c17).1 c18).2.2.2.2.1 ((hc16.2 c17).1 c18).2.2.2.2.2.1 ?_
              refine X_iconst dX12_encode_144 (by decide) ?_
              refine X_istore dX12_encode_145 (by decide) rfl ?_
              refine X_iload dX12_encode_147 rfl ?_
              refine X_if_eq dX12_encode_149 (tgt := 51) rfl (fun _ => ?_) (fun c => absurd (by decide) c)
              exact X_weak [false, false, false, false, false, false, true] (hrc n_encode_51 [x1, x2, x3 + 1, 1, 0] _ _ ((hc16.2 c17).1 c18).2.2.2.2.2.2 (MR.putA (MR.putA mr15 (k := 79) (j := x2 + x3) (z := z15) (by decide)) (k := 80) (j := x2 + x3) (z := 0) (by decide)) (MF.putA (MF.putA mf15 (k := 79) (j := x2 + x3) (z := z15) (by decide)) (k := 80) (j := x2 + x3) (z := 0) (by decide)))
            · refine X_iconst dX12_encode_115 (by decide) ?_
              refine X_goto dX12_encode_116 (tgt := 120) rfl ?_
              refine X_istore dX12_encode_120 (by decide) rfl ?_
              refine X_aload_n dX12_encode_122 rfl ?_
              refine X_getfield (ci := 12) (k := 79) (v := vr (a 79)) dX12_encode_123 rfl (by decide) kf_RX12_179 (congrArg vr (MR.ar mr15 (k := 79) (by decide)).1) mr15.1 ?_
              refine X_iload_n dX12_encode_126 rfl ?_
              refine X_iload_n dX12_encode_127 rfl ?_
              refine X_iaddN dX12_encode_128 ((hc16.2 c17).2 c18).1 ((hc16.2 c17).2 c18).2.1 ?_
              refine X_iload dX12_encode_129 rfl ?_
              refine X_iastore dX12_encode_131 ((MR.ar mr15 (k := 79) (by decide)).2.1.trans (by decide)) ((hc16.2 c17).2 c18).2.2.1 (lt_eq ((hc16.2 c17).2 c18).2.2.2.1 (MR.ln mr15 (k := 79) (by decide) (by decide))) ?_
              refine X_aload_n dX12_encode_132 rfl ?_
              refine X_getfield (ci := 12) (k := 80) (v := vr (a 80)) dX12_encode_133 rfl (by decide) kf_RX12_182 (congrArg vr (MR.ar (MR.putA mr15 (k := 79) (j := x2 + x3) (z := z15) (by decide)) (k := 80) (by decide)).1) (MR.putA mr15 (k := 79) (j := x2 + x3) (z := z15) (by decide)).1 ?_
              refine X_iload_n dX12_encode_136 rfl ?_
              refine X_iload_n dX12_encode_137 rfl ?_
              refine X_iaddN dX12_encode_138 ((hc16.2 c17).2 c18).1 ((hc16.2 c17).2 c18).2.1 ?_
              refine X_iconst dX12_encode_139 (by decide) ?_
              refine X_iastore dX12_encode_140 ((MR.ar (MR.putA mr15 (k := 79) (j := x2 + x3) (z := z15) (by decide)) (k := 80) (by decide)).2.1.trans (by decide)) ((hc16.2 c17).2 c18).2.2.1 (lt_eq ((hc16.2 c17).2 c18).2.2.2.1 (MR.ln (MR.putA mr15 (k := 79) (j := x2 + x3) (z := z15) (by decide)) (k := 80) (by decide) (by decide))) ?_
              refine X_iincN dX12_encode_141 rfl (by decide) rfl (e := x3 + 1) rfl ((hc16.2 c17).2 c18).2.2.2.2.1 ((hc16.2 c17).2 c18).2.2.2.2.2.1 ?_
              refine X_iconst dX12_encode_144 (by decide) ?_
              refine X_istore dX12_encode_145 (by decide) rfl ?_
              refine X_iload dX12_encode_147 rfl ?_
              refine X_if_eq dX12_encode_149 (tgt := 51) rfl (fun c => absurd c (by decide)) (fun _ => ?_)
              refine X_aload_n dX12_encode_152 rfl ?_
              refine X_invV (ci := 12) (as := []) (st := []) okX12_next dX12_encode_153 km_RX12_285 rfl rfl (Nat.le_of_ble_eq_true rfl) rfl rfl (MR.putA (MR.putA mr15 (k := 79) (j := x2 + x3) (z := z15) (by decide)) (k := 80) (j := x2 + x3) (z := 0) (by decide)).1 (CT.of d 0 0 (hcl n_next_0 rfl [] _ _ _ ((hc16.2 c17).2 c18).2.2.2.2.2.2 (MR.putA (MR.putA mr15 (k := 79) (j := x2 + x3) (z := z15) (by decide)) (k := 80) (j := x2 + x3) (z := 0) (by decide))) (Nat.le_refl _) (Nat.zero_le _) (Nat.zero_le _) (fun z19 S19 V19 hq19 => ?_))
              obtain ⟨rfl, M19, hc20, mr19, hf19⟩ := hq19
              have mf19 := MF.trans (MF.putA (MF.putA mf15 (k := 79) (j := x2 + x3) (z := z15) (by decide)) (k := 80) (j := x2 + x3) (z := 0) (by decide)) hf19
              refine X_goto dX12_encode_156 (tgt := 51) rfl ?_
              exact X_weak [false, false, false, false, false, false, true] (hrc n_encode_51 [x1, x2, x3 + 1, 1, 1] _ _ hc20 mr19 mf19)
        · refine X_aload_n dX12_encode_76 rfl ?_
          refine X_getfield (ci := 12) (k := 80) (v := vr (a 80)) dX12_encode_77 rfl (by decide) kf_RX12_182 (congrArg vr (MR.ar mr (k := 80) (by decide)).1) mr.1 ?_
          refine X_iload_n dX12_encode_80 rfl ?_
          refine X_iload_n dX12_encode_81 rfl ?_
          refine X_iaddN dX12_encode_82 ((((hB.2 c1).2 c4).2 c7).2 c14).1 ((((hB.2 c1).2 c4).2 c7).2 c14).2.1 ?_
          refine X_iconst dX12_encode_83 (by decide) ?_
          refine X_isubN dX12_encode_84 ((((hB.2 c1).2 c4).2 c7).2 c14).2.2.1 ((((hB.2 c1).2 c4).2 c7).2 c14).2.2.2.1 ?_
          refine X_aload_n dX12_encode_85 rfl ?_
          refine X_getfield (ci := 12) (k := 6) (v := vi (M 0 6)) dX12_encode_86 rfl (by decide) kf_RX12_215 (congrArg vi (MR.in_ mr (k := 6) (by decide) rfl)) mr.1 ?_
          refine X_iastore dX12_encode_89 ((MR.ar mr (k := 80) (by decide)).2.1.trans (by decide)) ((((hB.2 c1).2 c4).2 c7).2 c14).2.2.2.2.1 (lt_eq ((((hB.2 c1).2 c4).2 c7).2 c14).2.2.2.2.2.1 (MR.ln mr (k := 80) (by decide) (by decide))) ?_
          refine X_iconst dX12_encode_90 (by decide) ?_
          refine X_istore dX12_encode_91 (by decide) rfl ?_
          refine X_goto dX12_encode_93 (tgt := 147) rfl ?_
          refine X_iload dX12_encode_147 rfl ?_
          refine X_if_eq dX12_encode_149 (tgt := 51) rfl (fun c21 => ?_) (fun c21 => ?_)
          · exact hrc n_encode_51 [x1, x2, x3, 0, x5] _ _ (((((hB.2 c1).2 c4).2 c7).2 c14).2.2.2.2.2.2.1 c21) (MR.putA mr (k := 80) (j := (x2 + x3) - 1) (z := M 0 6) (by decide)) (MF.putA mf (k := 80) (j := (x2 + x3) - 1) (z := M 0 6) (by decide))
          · refine X_aload_n dX12_encode_152 rfl ?_
            refine X_invV (ci := 12) (as := []) (st := []) okX12_next dX12_encode_153 km_RX12_285 rfl rfl (Nat.le_of_ble_eq_true rfl) rfl rfl (MR.putA mr (k := 80) (j := (x2 + x3) - 1) (z := M 0 6) (by decide)).1 (CT.of d 0 0 (hcl n_next_0 rfl [] _ _ _ (((((hB.2 c1).2 c4).2 c7).2 c14).2.2.2.2.2.2.2 c21) (MR.putA mr (k := 80) (j := (x2 + x3) - 1) (z := M 0 6) (by decide))) (Nat.le_refl _) (Nat.zero_le _) (Nat.zero_le _) (fun z22 S22 V22 hq22 => ?_))
            obtain ⟨rfl, M22, hc23, mr22, hf22⟩ := hq22
            have mf22 := MF.trans (MF.putA mf (k := 80) (j := (x2 + x3) - 1) (z := M 0 6) (by decide)) hf22
            refine X_goto dX12_encode_156 (tgt := 51) rfl ?_
            exact hrc n_encode_51 [x1, x2, x3, 0, x5] _ _ hc23 mr22 mf22
def B_signal_0 (rc : MP) (cl : MC) (Q : Int → Mem → Prop) (d : Nat) (x1 x2 x3 : Int) (M : Mem) : Prop := (x1 < 0 → Q (-1) M) ∧ (¬ (x1 < 0) → ((M 0 81) ≤ x1 → Q (-1) M) ∧ (¬ ((M 0 81) ≤ x1) → (x2 < 0 → Q (-1) M) ∧ (¬ (x2 < 0) → 0 ≤ x1 ∧ x1 < 20 ∧ (x2 < (M 78 x1) → -2147483648 ≤ 61 * x1 ∧ 61 * x1 ≤ 2147483647 ∧ -2147483648 ≤ (61 * x1) + x2 ∧ (61 * x1) + x2 ≤ 2147483647 ∧ 0 ≤ ((61 * x1) + x2) ∧ ((61 * x1) + x2) < 1220 ∧ (x3 = 0 → Q (((M 79 ((61 * x1) + x2)).tdiv 24).tmod 12) M) ∧ (¬ x3 = 0 → (x3 = 1 → Q ((M 79 ((61 * x1) + x2)).tmod 24) M) ∧ (¬ x3 = 1 → (x3 = 2 → Q (M 80 ((61 * x1) + x2)) M) ∧ (¬ x3 = 2 → (x3 = 3 → Q (M 77 x1) M) ∧ (¬ x3 = 3 → Q (-1) M))))) ∧ (¬ (x2 < (M 78 x1)) → Q (-1) M))))
set_option maxRecDepth 10000 in
theorem s_signal_0 {l : Launch} {G : GT} {m : Int} {a : Int → Int} {d mc ms : Nat} {S : Sh} {Q : Int → Mem → Prop} {rc : MP} {cl : MC} {V0 V M : Mem} {x1 x2 x3 : Int} (hrc : RCok l G m a S V0 Q d mc ms rc) (hcl : CLok l G m a S d cl) (mr : MR m a S V M) (mf : MF m a V0 V) (hB : B_signal_0 rc cl Q d x1 x2 x3 M) : XJ l G bX12_signal (Qm m a S V0 Q) (d + 1) 0 [vr m, vi x1, vi x2, vi x3, vu] [] S V mc ms := by
  unfold B_signal_0 at hB
  refine X_iload_n dX12_signal_0 rfl ?_
  refine X_if_lt dX12_signal_1 (tgt := 26) rfl (fun c1 => ?_) (fun c1 => ?_)
  · refine X_iconst dX12_signal_26 (by decide) ?_
    exact X_ret (z := (-1)) dX12_signal_27 rfl (fun hv => vok_h hv) ⟨rfl, _, (hB.1 c1), mr, mf⟩
  · refine X_iload_n dX12_signal_4 rfl ?_
    refine X_aload_n dX12_signal_5 rfl ?_
    refine X_getfield (ci := 12) (k := 81) (v := vi (M 0 81)) dX12_signal_6 rfl (by decide) kf_RX12_473 (congrArg vi (MR.in_ mr (k := 81) (by decide) rfl)) mr.1 ?_
    refine X_icmp_ge dX12_signal_9 (tgt := 26) rfl (fun c2 => ?_) (fun c2 => ?_)
    · refine X_iconst dX12_signal_26 (by decide) ?_
      exact X_ret (z := (-1)) dX12_signal_27 rfl (fun hv => vok_h hv) ⟨rfl, _, ((hB.2 c1).1 c2), mr, mf⟩
    · refine X_iload_n dX12_signal_12 rfl ?_
      refine X_if_lt dX12_signal_13 (tgt := 26) rfl (fun c3 => ?_) (fun c3 => ?_)
      · refine X_iconst dX12_signal_26 (by decide) ?_
        exact X_ret (z := (-1)) dX12_signal_27 rfl (fun hv => vok_h hv) ⟨rfl, _, (((hB.2 c1).2 c2).1 c3), mr, mf⟩
      · refine X_iload_n dX12_signal_16 rfl ?_
        refine X_aload_n dX12_signal_17 rfl ?_
        refine X_getfield (ci := 12) (k := 78) (v := vr (a 78)) dX12_signal_18 rfl (by decide) kf_RX12_176 (congrArg vr (MR.ar mr (k := 78) (by decide)).1) mr.1 ?_
        refine X_iload_n dX12_signal_21 rfl ?_
        refine X_iaload dX12_signal_22 ((MR.ar mr (k := 78) (by decide)).2.1.trans (by decide)) (((hB.2 c1).2 c2).2 c3).1 (lt_eq (((hB.2 c1).2 c2).2 c3).2.1 (MR.ln mr (k := 78) (by decide) (by decide))) ?_
        refine X_top (v := vi (M 78 x1)) (congrArg vi (MR.el mr (k := 78) (by decide) rfl)) ?_
        refine X_icmp_lt dX12_signal_23 (tgt := 28) rfl (fun c4 => ?_) (fun c4 => ?_)
        · refine X_aload_n dX12_signal_28 rfl ?_
          refine X_getfield (ci := 12) (k := 79) (v := vr (a 79)) dX12_signal_29 rfl (by decide) kf_RX12_179 (congrArg vr (MR.ar mr (k := 79) (by decide)).1) mr.1 ?_
          refine X_bipush dX12_signal_32 (by decide) (by decide) ?_
          refine X_iload_n dX12_signal_34 rfl ?_
          refine X_imulN dX12_signal_35 ((((hB.2 c1).2 c2).2 c3).2.2.1 c4).1 ((((hB.2 c1).2 c2).2 c3).2.2.1 c4).2.1 ?_
          refine X_iload_n dX12_signal_36 rfl ?_
          refine X_iaddN dX12_signal_37 ((((hB.2 c1).2 c2).2 c3).2.2.1 c4).2.2.1 ((((hB.2 c1).2 c2).2 c3).2.2.1 c4).2.2.2.1 ?_
          refine X_iaload dX12_signal_38 ((MR.ar mr (k := 79) (by decide)).2.1.trans (by decide)) ((((hB.2 c1).2 c2).2 c3).2.2.1 c4).2.2.2.2.1 (lt_eq ((((hB.2 c1).2 c2).2 c3).2.2.1 c4).2.2.2.2.2.1 (MR.ln mr (k := 79) (by decide) (by decide))) ?_
          refine X_top (v := vi (M 79 ((61 * x1) + x2))) (congrArg vi (MR.el mr (k := 79) (by decide) rfl)) ?_
          refine X_istore dX12_signal_39 (by decide) rfl ?_
          refine X_iload_n dX12_signal_41 rfl ?_
          by_cases c5 : x3 = 0
          · refine X_table dX12_signal_42 72 30 (by rw [c5]; rfl) rfl ?_
            refine X_iload dX12_signal_72 rfl ?_
            refine X_bipush dX12_signal_74 (by decide) (by decide) ?_
            refine X_idivP dX12_signal_76 (by decide) ?_
            refine X_bipush dX12_signal_77 (by decide) (by decide) ?_
            refine X_iremP dX12_signal_79 (by decide) ?_
            exact X_ret (z := (((M 79 ((61 * x1) + x2)).tdiv 24).tmod 12)) dX12_signal_80 rfl (fun hv => vok_h hv) ⟨rfl, _, (((((hB.2 c1).2 c2).2 c3).2.2.1 c4).2.2.2.2.2.2.1 c5), mr, mf⟩
          by_cases c6 : x3 = 1
          · refine X_table dX12_signal_42 81 39 (by rw [c6]; rfl) rfl ?_
            refine X_iload dX12_signal_81 rfl ?_
            refine X_bipush dX12_signal_83 (by decide) (by decide) ?_
            refine X_iremP dX12_signal_85 (by decide) ?_
            exact X_ret (z := ((M 79 ((61 * x1) + x2)).tmod 24)) dX12_signal_86 rfl (fun hv => vok_h hv) ⟨rfl, _, ((((((hB.2 c1).2 c2).2 c3).2.2.1 c4).2.2.2.2.2.2.2 c5).1 c6), mr, mf⟩
          by_cases c7 : x3 = 2
          · refine X_table dX12_signal_42 87 45 (by rw [c7]; rfl) rfl ?_
            refine X_aload_n dX12_signal_87 rfl ?_
            refine X_getfield (ci := 12) (k := 80) (v := vr (a 80)) dX12_signal_88 rfl (by decide) kf_RX12_182 (congrArg vr (MR.ar mr (k := 80) (by decide)).1) mr.1 ?_
            refine X_bipush dX12_signal_91 (by decide) (by decide) ?_
            refine X_iload_n dX12_signal_93 rfl ?_
            refine X_imulN dX12_signal_94 ((((hB.2 c1).2 c2).2 c3).2.2.1 c4).1 ((((hB.2 c1).2 c2).2 c3).2.2.1 c4).2.1 ?_
            refine X_iload_n dX12_signal_95 rfl ?_
            refine X_iaddN dX12_signal_96 ((((hB.2 c1).2 c2).2 c3).2.2.1 c4).2.2.1 ((((hB.2 c1).2 c2).2 c3).2.2.1 c4).2.2.2.1 ?_
            refine X_iaload dX12_signal_97 ((MR.ar mr (k := 80) (by decide)).2.1.trans (by decide)) ((((hB.2 c1).2 c2).2 c3).2.2.1 c4).2.2.2.2.1 (lt_eq ((((hB.2 c1).2 c2).2 c3).2.2.1 c4).2.2.2.2.2.1 (MR.ln mr (k := 80) (by decide) (by decide))) ?_
            refine X_top (v := vi (M 80 ((61 * x1) + x2))) (congrArg vi (MR.el mr (k := 80) (by decide) rfl)) ?_
            exact X_ret (z := (M 80 ((61 * x1) + x2))) dX12_signal_98 rfl (fun hv => vok_h hv) ⟨rfl, _, (((((((hB.2 c1).2 c2).2 c3).2.2.1 c4).2.2.2.2.2.2.2 c5).2 c6).1 c7), mr, mf⟩
          by_cases c8 : x3 = 3
          · refine X_table dX12_signal_42 99 57 (by rw [c8]; rfl) rfl ?_
            refine X_aload_n dX12_signal_99 rfl ?_
            refine X_getfield (ci := 12) (k := 77) (v := vr (a 77)) dX12_signal_100 rfl (by decide) kf_RX12_173 (congrArg vr (MR.ar mr (k := 77) (by decide)).1) mr.1 ?_
            refine X_iload_n dX12_signal_103 rfl ?_
            refine X_iaload dX12_signal_104 ((MR.ar mr (k := 77) (by decide)).2.1.trans (by decide)) (((hB.2 c1).2 c2).2 c3).1 (lt_eq (((hB.2 c1).2 c2).2 c3).2.1 (MR.ln mr (k := 77) (by decide) (by decide))) ?_
            refine X_top (v := vi (M 77 x1)) (congrArg vi (MR.el mr (k := 77) (by decide) rfl)) ?_
            exact X_ret (z := (M 77 x1)) dX12_signal_105 rfl (fun hv => vok_h hv) ⟨rfl, _, ((((((((hB.2 c1).2 c2).2 c3).2.2.1 c4).2.2.2.2.2.2.2 c5).2 c6).2 c7).1 c8), mr, mf⟩
          refine X_table dX12_signal_42 106 64 (tbl_df (by omega)) rfl ?_
          refine X_iconst dX12_signal_106 (by decide) ?_
          exact X_ret (z := (-1)) dX12_signal_107 rfl (fun hv => vok_h hv) ⟨rfl, _, ((((((((hB.2 c1).2 c2).2 c3).2.2.1 c4).2.2.2.2.2.2.2 c5).2 c6).2 c7).2 c8), mr, mf⟩
        · refine X_iconst dX12_signal_26 (by decide) ?_
          exact X_ret (z := (-1)) dX12_signal_27 rfl (fun hv => vok_h hv) ⟨rfl, _, ((((hB.2 c1).2 c2).2 c3).2.2.2 c4), mr, mf⟩
def B_put__0 (rc : MP) (cl : MC) (Q : Int → Mem → Prop) (d : Nat) (x1 : Int) (M : Mem) : Prop := 0 ≤ (M 0 83) ∧ (M 0 83) < 3000 ∧ -2147483648 ≤ (M 0 83) + 1 ∧ (M 0 83) + 1 ≤ 2147483647 ∧ Q 0 (up (up M 82 (M 0 83) (wb (wb x1))) 0 83 ((M 0 83) + 1))
set_option maxRecDepth 10000 in
theorem s_put__0 {l : Launch} {G : GT} {m : Int} {a : Int → Int} {d mc ms : Nat} {S : Sh} {Q : Int → Mem → Prop} {rc : MP} {cl : MC} {V0 V M : Mem} {x1 : Int} (hrc : RCok l G m a S V0 Q d mc ms rc) (hcl : CLok l G m a S d cl) (mr : MR m a S V M) (mf : MF m a V0 V) (hB : B_put__0 rc cl Q d x1 M) : XJ l G bX12_put_ (Qm m a S V0 Q) (d + 1) 0 [vr m, vi x1] [] S V mc ms := by
  unfold B_put__0 at hB
  refine X_aload_n dX12_put__0 rfl ?_
  refine X_getfield (ci := 12) (k := 82) (v := vr (a 82)) dX12_put__1 rfl (by decide) kf_RX12_185 (congrArg vr (MR.ar mr (k := 82) (by decide)).1) mr.1 ?_
  refine X_aload_n dX12_put__4 rfl ?_
  refine X_getfield (ci := 12) (k := 83) (v := vi (M 0 83)) dX12_put__5 rfl (by decide) kf_RX12_479 (congrArg vi (MR.in_ mr (k := 83) (by decide) rfl)) mr.1 ?_
  refine X_iload_n dX12_put__8 rfl ?_
  refine X_i2b dX12_put__9 ?_
  refine X_bastore dX12_put__10 ((MR.ar mr (k := 82) (by decide)).2.1.trans (by decide)) hB.1 (lt_eq hB.2.1 (MR.ln mr (k := 82) (by decide) (by decide))) ?_
  refine X_aload_n dX12_put__11 rfl ?_
  refine X_dup dX12_put__12 (rv_cat _) ?_
  refine X_getfield (ci := 12) (k := 83) (v := vi (M 0 83)) dX12_put__13 rfl (by decide) kf_RX12_479 (congrArg vi (MR.in_ (MR.putA mr (k := 82) (j := M 0 83) (z := wb (wb x1)) (by decide)) (k := 83) (by decide) (up_ne (Or.inl (by decide))))) (MR.putA mr (k := 82) (j := M 0 83) (z := wb (wb x1)) (by decide)).1 ?_
  refine X_iconst dX12_put__16 (by decide) ?_
  refine X_iaddN dX12_put__17 hB.2.2.1 hB.2.2.2.1 ?_
  refine X_putfield (ci := 12) (k := 83) (z := ((M 0 83) + 1)) dX12_put__18 rfl (by decide) kf_RX12_479 (Or.inl rfl) (Or.inl rfl) rfl (fun hv => hv) (MR.putA mr (k := 82) (j := M 0 83) (z := wb (wb x1)) (by decide)).1 ?_
  exact X_ret (z := 0) dX12_put__21 rfl (fun _ => trivial) ⟨rfl, _, hB.2.2.2.2, (MR.putI (MR.putA mr (k := 82) (j := M 0 83) (z := wb (wb x1)) (by decide)) (k := 83) (z := (M 0 83) + 1) (by decide)), (MF.putI (MF.putA mf (k := 82) (j := M 0 83) (z := wb (wb x1)) (by decide)) (k := 83) (z := (M 0 83) + 1))⟩
def B_decode_0 (rc : MP) (cl : MC) (Q : Int → Mem → Prop) (d : Nat) (x1 : Int) (M : Mem) : Prop := (x1 < 0 → Q (-1) M) ∧ (¬ (x1 < 0) → (x1 < (M 0 81) → -2147483648 ≤ 61 * x1 ∧ 61 * x1 ≤ 2147483647 ∧ rc n_decode_24 [x1, 61 * x1] (up M 0 83 0)) ∧ (¬ (x1 < (M 0 81)) → Q (-1) M))
set_option maxRecDepth 10000 in
theorem s_decode_0 {l : Launch} {G : GT} {m : Int} {a : Int → Int} {d mc ms : Nat} {S : Sh} {Q : Int → Mem → Prop} {rc : MP} {cl : MC} {V0 V M : Mem} {x1 : Int} (hrc : RCok l G m a S V0 Q d mc ms rc) (hcl : CLok l G m a S d cl) (mr : MR m a S V M) (mf : MF m a V0 V) (hB : B_decode_0 rc cl Q d x1 M) : XJ l G bX12_decode (Qm m a S V0 Q) (d + 1) 0 [vr m, vi x1, vu, vu, vu] [] S V mc ms := by
  unfold B_decode_0 at hB
  refine X_iload_n dX12_decode_0 rfl ?_
  refine X_if_lt dX12_decode_1 (tgt := 12) rfl (fun c1 => ?_) (fun c1 => ?_)
  · refine X_iconst dX12_decode_12 (by decide) ?_
    exact X_ret (z := (-1)) dX12_decode_13 rfl (fun hv => vok_h hv) ⟨rfl, _, (hB.1 c1), mr, mf⟩
  · refine X_iload_n dX12_decode_4 rfl ?_
    refine X_aload_n dX12_decode_5 rfl ?_
    refine X_getfield (ci := 12) (k := 81) (v := vi (M 0 81)) dX12_decode_6 rfl (by decide) kf_RX12_473 (congrArg vi (MR.in_ mr (k := 81) (by decide) rfl)) mr.1 ?_
    refine X_icmp_lt dX12_decode_9 (tgt := 14) rfl (fun c2 => ?_) (fun c2 => ?_)
    · refine X_aload_n dX12_decode_14 rfl ?_
      refine X_iconst dX12_decode_15 (by decide) ?_
      refine X_putfield (ci := 12) (k := 83) (z := 0) dX12_decode_16 rfl (by decide) kf_RX12_479 (Or.inl rfl) (Or.inl rfl) rfl (fun hv => hv) mr.1 ?_
      refine X_bipush dX12_decode_19 (by decide) (by decide) ?_
      refine X_iload_n dX12_decode_21 rfl ?_
      refine X_imulN dX12_decode_22 ((hB.2 c1).1 c2).1 ((hB.2 c1).1 c2).2.1 ?_
      refine X_istore_n dX12_decode_23 (by decide) rfl ?_
      exact hrc n_decode_24 [x1, 61 * x1] _ _ ((hB.2 c1).1 c2).2.2 (MR.putI mr (k := 83) (z := 0) (by decide)) (MF.putI mf (k := 83) (z := 0))
    · refine X_iconst dX12_decode_12 (by decide) ?_
      exact X_ret (z := (-1)) dX12_decode_13 rfl (fun hv => vok_h hv) ⟨rfl, _, ((hB.2 c1).2 c2), mr, mf⟩
def B_decode_24 (rc : MP) (cl : MC) (Q : Int → Mem → Prop) (d : Nat) (x1 x2 : Int) (M : Mem) : Prop := -2147483648 ≤ 61 * x1 ∧ 61 * x1 ≤ 2147483647 ∧ 0 ≤ x1 ∧ x1 < 20 ∧ -2147483648 ≤ (61 * x1) + (M 78 x1) ∧ (61 * x1) + (M 78 x1) ≤ 2147483647 ∧ (((61 * x1) + (M 78 x1)) ≤ x2 → rc n_decode_193 [x1, 0] (up M 0 2 (M 0 83))) ∧ (¬ (((61 * x1) + (M 78 x1)) ≤ x2) → ((M 0 83) ≤ 0 → 0 ≤ x2 ∧ x2 < 1220 ∧ 0 ≤ (M 79 x2) ∧ (M 79 x2) < 2880 ∧ rc n_decode_67 [x1, x2, M 20 (M 79 x2), 0] M) ∧ (¬ ((M 0 83) ≤ 0) → cl n_put__0 [32] M (fun z3 M3 => 0 ≤ x2 ∧ x2 < 1220 ∧ 0 ≤ (M3 79 x2) ∧ (M3 79 x2) < 2880 ∧ rc n_decode_67 [x1, x2, M3 20 (M3 79 x2), 0] M3)))
set_option maxRecDepth 10000 in
theorem s_decode_24 {l : Launch} {G : GT} {m : Int} {a : Int → Int} {d mc ms : Nat} {S : Sh} {Q : Int → Mem → Prop} {rc : MP} {cl : MC} {V0 V M : Mem} {x1 x2 : Int} (hrc : RCok l G m a S V0 Q d mc ms rc) (hcl : CLok l G m a S d cl) (mr : MR m a S V M) (mf : MF m a V0 V) (hB : B_decode_24 rc cl Q d x1 x2 M) : XJ l G bX12_decode (Qm m a S V0 Q) (d + 1) 24 [vr m, vi x1, vi x2, vu, vu] [] S V mc ms := by
  unfold B_decode_24 at hB
  refine X_iload_n dX12_decode_24 rfl ?_
  refine X_bipush dX12_decode_25 (by decide) (by decide) ?_
  refine X_iload_n dX12_decode_27 rfl ?_
  refine X_imulN dX12_decode_28 hB.1 hB.2.1 ?_
  refine X_aload_n dX12_decode_29 rfl ?_
  refine X_getfield (ci := 12) (k := 78) (v := vr (a 78)) dX12_decode_30 rfl (by decide) kf_RX12_176 (congrArg vr (MR.ar mr (k := 78) (by decide)).1) mr.1 ?_
  refine X_iload_n dX12_decode_33 rfl ?_
  refine X_iaload dX12_decode_34 ((MR.ar mr (k := 78) (by decide)).2.1.trans (by decide)) hB.2.2.1 (lt_eq hB.2.2.2.1 (MR.ln mr (k := 78) (by decide) (by decide))) ?_
  refine X_top (v := vi (M 78 x1)) (congrArg vi (MR.el mr (k := 78) (by decide) rfl)) ?_
  refine X_iaddN dX12_decode_35 hB.2.2.2.2.1 hB.2.2.2.2.2.1 ?_
  refine X_icmp_ge dX12_decode_36 (tgt := 183) rfl (fun c1 => ?_) (fun c1 => ?_)
  · refine X_aload_n dX12_decode_183 rfl ?_
    refine X_aload_n dX12_decode_184 rfl ?_
    refine X_getfield (ci := 12) (k := 83) (v := vi (M 0 83)) dX12_decode_185 rfl (by decide) kf_RX12_479 (congrArg vi (MR.in_ mr (k := 83) (by decide) rfl)) mr.1 ?_
    refine X_putfield (ci := 12) (k := 2) (z := (M 0 83)) dX12_decode_188 rfl (by decide) kf_RX12_192 (Or.inl rfl) (Or.inl rfl) rfl (fun hv => hv) mr.1 ?_
    refine X_iconst dX12_decode_191 (by decide) ?_
    refine X_istore_n dX12_decode_192 (by decide) rfl ?_
    exact hrc n_decode_193 [x1, 0] _ _ (hB.2.2.2.2.2.2.1 c1) (MR.putI mr (k := 2) (z := M 0 83) (by decide)) (MF.putI mf (k := 2) (z := M 0 83))
  · refine X_aload_n dX12_decode_39 rfl ?_
    refine X_getfield (ci := 12) (k := 83) (v := vi (M 0 83)) dX12_decode_40 rfl (by decide) kf_RX12_479 (congrArg vi (MR.in_ mr (k := 83) (by decide) rfl)) mr.1 ?_
    refine X_if_le dX12_decode_43 (tgt := 52) rfl (fun c2 => ?_) (fun c2 => ?_)
    · refine X_aload_n dX12_decode_52 rfl ?_
      refine X_getfield (ci := 12) (k := 20) (v := vr (a 20)) dX12_decode_53 rfl (by decide) kf_RX12_47 (congrArg vr (MR.ar mr (k := 20) (by decide)).1) mr.1 ?_
      refine X_aload_n dX12_decode_56 rfl ?_
      refine X_getfield (ci := 12) (k := 79) (v := vr (a 79)) dX12_decode_57 rfl (by decide) kf_RX12_179 (congrArg vr (MR.ar mr (k := 79) (by decide)).1) mr.1 ?_
      refine X_iload_n dX12_decode_60 rfl ?_
      refine X_iaload dX12_decode_61 ((MR.ar mr (k := 79) (by decide)).2.1.trans (by decide)) ((hB.2.2.2.2.2.2.2 c1).1 c2).1 (lt_eq ((hB.2.2.2.2.2.2.2 c1).1 c2).2.1 (MR.ln mr (k := 79) (by decide) (by decide))) ?_
      refine X_top (v := vi (M 79 x2)) (congrArg vi (MR.el mr (k := 79) (by decide) rfl)) ?_
      refine X_iaload dX12_decode_62 ((MR.ar mr (k := 20) (by decide)).2.1.trans (by decide)) ((hB.2.2.2.2.2.2.2 c1).1 c2).2.2.1 (lt_eq ((hB.2.2.2.2.2.2.2 c1).1 c2).2.2.2.1 (MR.ln mr (k := 20) (by decide) (by decide))) ?_
      refine X_top (v := vi (M 20 (M 79 x2))) (congrArg vi (MR.el mr (k := 20) (by decide) rfl)) ?_
      refine X_istore_n dX12_decode_63 (by decide) rfl ?_
      refine X_iconst dX12_decode_64 (by decide) ?_
      refine X_istore dX12_decode_65 (by decide) rfl ?_
      exact hrc n_decode_67 [x1, x2, M 20 (M 79 x2), 0] _ _ ((hB.2.2.2.2.2.2.2 c1).1 c2).2.2.2.2 mr mf
    · refine X_aload_n dX12_decode_46 rfl ?_
      refine X_bipush dX12_decode_47 (by decide) (by decide) ?_
      refine X_invV (ci := 12) (as := [vi 32]) (st := []) okX12_put_ dX12_decode_49 km_RX12_482 rfl rfl (Nat.le_of_ble_eq_true rfl) rfl rfl mr.1 (CT.of d 0 0 (hcl n_put__0 rfl [32] _ _ _ ((hB.2.2.2.2.2.2.2 c1).2 c2) mr) (Nat.le_refl _) (Nat.zero_le _) (Nat.zero_le _) (fun z3 S3 V3 hq3 => ?_))
      obtain ⟨rfl, M3, hc4, mr3, hf3⟩ := hq3
      have mf3 := MF.trans mf hf3
      refine X_aload_n dX12_decode_52 rfl ?_
      refine X_getfield (ci := 12) (k := 20) (v := vr (a 20)) dX12_decode_53 rfl (by decide) kf_RX12_47 (congrArg vr (MR.ar mr3 (k := 20) (by decide)).1) mr3.1 ?_
      refine X_aload_n dX12_decode_56 rfl ?_
      refine X_getfield (ci := 12) (k := 79) (v := vr (a 79)) dX12_decode_57 rfl (by decide) kf_RX12_179 (congrArg vr (MR.ar mr3 (k := 79) (by decide)).1) mr3.1 ?_
      refine X_iload_n dX12_decode_60 rfl ?_
      refine X_iaload dX12_decode_61 ((MR.ar mr3 (k := 79) (by decide)).2.1.trans (by decide)) hc4.1 (lt_eq hc4.2.1 (MR.ln mr3 (k := 79) (by decide) (by decide))) ?_
      refine X_top (v := vi (M3 79 x2)) (congrArg vi (MR.el mr3 (k := 79) (by decide) rfl)) ?_
      refine X_iaload dX12_decode_62 ((MR.ar mr3 (k := 20) (by decide)).2.1.trans (by decide)) hc4.2.2.1 (lt_eq hc4.2.2.2.1 (MR.ln mr3 (k := 20) (by decide) (by decide))) ?_
      refine X_top (v := vi (M3 20 (M3 79 x2))) (congrArg vi (MR.el mr3 (k := 20) (by decide) rfl)) ?_
      refine X_istore_n dX12_decode_63 (by decide) rfl ?_
      refine X_iconst dX12_decode_64 (by decide) ?_
      refine X_istore dX12_decode_65 (by decide) rfl ?_
      exact hrc n_decode_67 [x1, x2, M3 20 (M3 79 x2), 0] _ _ hc4.2.2.2.2 mr3 mf3
def B_decode_67 (rc : MP) (cl : MC) (Q : Int → Mem → Prop) (d : Nat) (x1 x2 x3 x4 : Int) (M : Mem) : Prop := ((x3.tmod 16) ≤ x4 → 0 ≤ x2 ∧ x2 < 1220 ∧ ((M 80 x2) ≠ 0 → cl n_put__0 [32] M (fun z3 M3 => rc n_decode_119 [x1, x2, x3, 1] M3)) ∧ (¬ ((M 80 x2) ≠ 0) → -2147483648 ≤ x2 + 1 ∧ x2 + 1 ≤ 2147483647 ∧ rc n_decode_24 [x1, x2 + 1] M)) ∧ (¬ ((x3.tmod 16) ≤ x4) → -2147483648 ≤ (x3.tdiv 16) + x4 ∧ (x3.tdiv 16) + x4 ≤ 2147483647 ∧ 0 ≤ ((x3.tdiv 16) + x4) ∧ ((x3.tdiv 16) + x4) < 30000 ∧ cl n_put__0 [M 7 ((x3.tdiv 16) + x4)] M (fun z5 M5 => -2147483648 ≤ x4 + 1 ∧ x4 + 1 ≤ 2147483647 ∧ rc n_decode_67 [x1, x2, x3, x4 + 1] M5))
set_option maxRecDepth 10000 in
theorem s_decode_67 {l : Launch} {G : GT} {m : Int} {a : Int → Int} {d mc ms : Nat} {S : Sh} {Q : Int → Mem → Prop} {rc : MP} {cl : MC} {V0 V M : Mem} {x1 x2 x3 x4 : Int} (hrc : RCok l G m a S V0 Q d mc ms rc) (hcl : CLok l G m a S d cl) (mr : MR m a S V M) (mf : MF m a V0 V) (hB : B_decode_67 rc cl Q d x1 x2 x3 x4 M) : XJ l G bX12_decode (Qm m a S V0 Q) (d + 1) 67 [vr m, vi x1, vi x2, vi x3, vi x4] [] S V mc ms := by
  unfold B_decode_67 at hB
  refine X_iload dX12_decode_67 rfl ?_
  refine X_iload_n dX12_decode_69 rfl ?_
  refine X_bipush dX12_decode_70 (by decide) (by decide) ?_
  refine X_iremP dX12_decode_72 (by decide) ?_
  refine X_icmp_ge dX12_decode_73 (tgt := 98) rfl (fun c1 => ?_) (fun c1 => ?_)
  · refine X_aload_n dX12_decode_98 rfl ?_
    refine X_getfield (ci := 12) (k := 80) (v := vr (a 80)) dX12_decode_99 rfl (by decide) kf_RX12_182 (congrArg vr (MR.ar mr (k := 80) (by decide)).1) mr.1 ?_
    refine X_iload_n dX12_decode_102 rfl ?_
    refine X_iaload dX12_decode_103 ((MR.ar mr (k := 80) (by decide)).2.1.trans (by decide)) (hB.1 c1).1 (lt_eq (hB.1 c1).2.1 (MR.ln mr (k := 80) (by decide) (by decide))) ?_
    refine X_top (v := vi (M 80 x2)) (congrArg vi (MR.el mr (k := 80) (by decide) rfl)) ?_
    refine X_if_ne dX12_decode_104 (tgt := 110) rfl (fun c2 => ?_) (fun c2 => ?_)
    · refine X_aload_n dX12_decode_110 rfl ?_
      refine X_bipush dX12_decode_111 (by decide) (by decide) ?_
      refine X_invV (ci := 12) (as := [vi 32]) (st := []) okX12_put_ dX12_decode_113 km_RX12_482 rfl rfl (Nat.le_of_ble_eq_true rfl) rfl rfl mr.1 (CT.of d 0 0 (hcl n_put__0 rfl [32] _ _ _ ((hB.1 c1).2.2.1 c2) mr) (Nat.le_refl _) (Nat.zero_le _) (Nat.zero_le _) (fun z3 S3 V3 hq3 => ?_))
      obtain ⟨rfl, M3, hc4, mr3, hf3⟩ := hq3
      have mf3 := MF.trans mf hf3
      refine X_iconst dX12_decode_116 (by decide) ?_
      refine X_istore dX12_decode_117 (by decide) rfl ?_
      exact hrc n_decode_119 [x1, x2, x3, 1] _ _ hc4 mr3 mf3
    · refine X_goto dX12_decode_107 (tgt := 177) rfl ?_
      refine X_iincN dX12_decode_177 rfl (by decide) rfl (e := x2 + 1) rfl ((hB.1 c1).2.2.2 c2).1 ((hB.1 c1).2.2.2 c2).2.1 ?_
      refine X_goto dX12_decode_180 (tgt := 24) rfl ?_
      exact X_weak [false, false, false, true, true] (hrc n_decode_24 [x1, x2 + 1] _ _ ((hB.1 c1).2.2.2 c2).2.2 mr mf)
  · refine X_aload_n dX12_decode_76 rfl ?_
    refine X_aload_n dX12_decode_77 rfl ?_
    refine X_getfield (ci := 12) (k := 7) (v := vr (a 7)) dX12_decode_78 rfl (by decide) kf_RX12_13 (congrArg vr (MR.ar mr (k := 7) (by decide)).1) mr.1 ?_
    refine X_iload_n dX12_decode_81 rfl ?_
    refine X_bipush dX12_decode_82 (by decide) (by decide) ?_
    refine X_idivP dX12_decode_84 (by decide) ?_
    refine X_iload dX12_decode_85 rfl ?_
    refine X_iaddN dX12_decode_87 (hB.2 c1).1 (hB.2 c1).2.1 ?_
    refine X_baload dX12_decode_88 ((MR.ar mr (k := 7) (by decide)).2.1.trans (by decide)) (hB.2 c1).2.2.1 (lt_eq (hB.2 c1).2.2.2.1 (MR.ln mr (k := 7) (by decide) (by decide))) ?_
    refine X_top (v := vi (M 7 ((x3.tdiv 16) + x4))) (congrArg vi (MR.el mr (k := 7) (by decide) rfl)) ?_
    refine X_invV (ci := 12) (as := [vi (M 7 ((x3.tdiv 16) + x4))]) (st := []) okX12_put_ dX12_decode_89 km_RX12_482 rfl rfl (Nat.le_of_ble_eq_true rfl) rfl rfl mr.1 (CT.of d 0 0 (hcl n_put__0 rfl [M 7 ((x3.tdiv 16) + x4)] _ _ _ (hB.2 c1).2.2.2.2 mr) (Nat.le_refl _) (Nat.zero_le _) (Nat.zero_le _) (fun z5 S5 V5 hq5 => ?_))
    obtain ⟨rfl, M5, hc6, mr5, hf5⟩ := hq5
    have mf5 := MF.trans mf hf5
    refine X_iincN dX12_decode_92 rfl (by decide) rfl (e := x4 + 1) rfl hc6.1 hc6.2.1 ?_
    refine X_goto dX12_decode_95 (tgt := 67) rfl ?_
    exact hrc n_decode_67 [x1, x2, x3, x4 + 1] _ _ hc6.2.2 mr5 mf5
def B_decode_119 (rc : MP) (cl : MC) (Q : Int → Mem → Prop) (d : Nat) (x1 x2 x3 x4 : Int) (M : Mem) : Prop := 0 ≤ x2 ∧ x2 < 1220 ∧ 0 < x4 ∧ (((M 80 x2).tdiv x4) ≤ 9 → rc n_decode_143 [x1, x2, x3, x4] M) ∧ (¬ (((M 80 x2).tdiv x4) ≤ 9) → -2147483648 ≤ x4 * 10 ∧ x4 * 10 ≤ 2147483647 ∧ rc n_decode_119 [x1, x2, x3, x4 * 10] M)
set_option maxRecDepth 10000 in
theorem s_decode_119 {l : Launch} {G : GT} {m : Int} {a : Int → Int} {d mc ms : Nat} {S : Sh} {Q : Int → Mem → Prop} {rc : MP} {cl : MC} {V0 V M : Mem} {x1 x2 x3 x4 : Int} (hrc : RCok l G m a S V0 Q d mc ms rc) (hcl : CLok l G m a S d cl) (mr : MR m a S V M) (mf : MF m a V0 V) (hB : B_decode_119 rc cl Q d x1 x2 x3 x4 M) : XJ l G bX12_decode (Qm m a S V0 Q) (d + 1) 119 [vr m, vi x1, vi x2, vi x3, vi x4] [] S V mc ms := by
  unfold B_decode_119 at hB
  refine X_aload_n dX12_decode_119 rfl ?_
  refine X_getfield (ci := 12) (k := 80) (v := vr (a 80)) dX12_decode_120 rfl (by decide) kf_RX12_182 (congrArg vr (MR.ar mr (k := 80) (by decide)).1) mr.1 ?_
  refine X_iload_n dX12_decode_123 rfl ?_
  refine X_iaload dX12_decode_124 ((MR.ar mr (k := 80) (by decide)).2.1.trans (by decide)) hB.1 (lt_eq hB.2.1 (MR.ln mr (k := 80) (by decide) (by decide))) ?_
  refine X_top (v := vi (M 80 x2)) (congrArg vi (MR.el mr (k := 80) (by decide) rfl)) ?_
  refine X_iload dX12_decode_125 rfl ?_
  refine X_idivP dX12_decode_127 hB.2.2.1 ?_
  refine X_bipush dX12_decode_128 (by decide) (by decide) ?_
  refine X_icmp_le dX12_decode_130 (tgt := 143) rfl (fun c1 => ?_) (fun c1 => ?_)
  · exact hrc n_decode_143 [x1, x2, x3, x4] _ _ (hB.2.2.2.1 c1) mr mf
  · refine X_iload dX12_decode_133 rfl ?_
    refine X_bipush dX12_decode_135 (by decide) (by decide) ?_
    refine X_imulN dX12_decode_137 (hB.2.2.2.2 c1).1 (hB.2.2.2.2 c1).2.1 ?_
    refine X_istore dX12_decode_138 (by decide) rfl ?_
    refine X_goto dX12_decode_140 (tgt := 119) rfl ?_
    exact hrc n_decode_119 [x1, x2, x3, x4 * 10] _ _ (hB.2.2.2.2 c1).2.2 mr mf
def B_decode_143 (rc : MP) (cl : MC) (Q : Int → Mem → Prop) (d : Nat) (x1 x2 x3 x4 : Int) (M : Mem) : Prop := (x4 ≤ 0 → -2147483648 ≤ x2 + 1 ∧ x2 + 1 ≤ 2147483647 ∧ rc n_decode_24 [x1, x2 + 1] M) ∧ (¬ (x4 ≤ 0) → 0 ≤ x2 ∧ x2 < 1220 ∧ 0 < x4 ∧ -2147483648 ≤ 48 + (((M 80 x2).tdiv x4).tmod 10) ∧ 48 + (((M 80 x2).tdiv x4).tmod 10) ≤ 2147483647 ∧ cl n_put__0 [48 + (((M 80 x2).tdiv x4).tmod 10)] M (fun z2 M2 => rc n_decode_143 [x1, x2, x3, x4.tdiv 10] M2))
set_option maxRecDepth 10000 in
theorem s_decode_143 {l : Launch} {G : GT} {m : Int} {a : Int → Int} {d mc ms : Nat} {S : Sh} {Q : Int → Mem → Prop} {rc : MP} {cl : MC} {V0 V M : Mem} {x1 x2 x3 x4 : Int} (hrc : RCok l G m a S V0 Q d mc ms rc) (hcl : CLok l G m a S d cl) (mr : MR m a S V M) (mf : MF m a V0 V) (hB : B_decode_143 rc cl Q d x1 x2 x3 x4 M) : XJ l G bX12_decode (Qm m a S V0 Q) (d + 1) 143 [vr m, vi x1, vi x2, vi x3, vi x4] [] S V mc ms := by
  unfold B_decode_143 at hB
  refine X_iload dX12_decode_143 rfl ?_
  refine X_if_le dX12_decode_145 (tgt := 177) rfl (fun c1 => ?_) (fun c1 => ?_)
  · refine X_iincN dX12_decode_177 rfl (by decide) rfl (e := x2 + 1) rfl (hB.1 c1).1 (hB.1 c1).2.1 ?_
    refine X_goto dX12_decode_180 (tgt := 24) rfl ?_
    exact X_weak [false, false, false, true, true] (hrc n_decode_24 [x1, x2 + 1] _ _ (hB.1 c1).2.2 mr mf)
  · refine X_aload_n dX12_decode_148 rfl ?_
    refine X_bipush dX12_decode_149 (by decide) (by decide) ?_
    refine X_aload_n dX12_decode_151 rfl ?_
    refine X_getfield (ci := 12) (k := 80) (v := vr (a 80)) dX12_decode_152 rfl (by decide) kf_RX12_182 (congrArg vr (MR.ar mr (k := 80) (by decide)).1) mr.1 ?_
    refine X_iload_n dX12_decode_155 rfl ?_
    refine X_iaload dX12_decode_156 ((MR.ar mr (k := 80) (by decide)).2.1.trans (by decide)) (hB.2 c1).1 (lt_eq (hB.2 c1).2.1 (MR.ln mr (k := 80) (by decide) (by decide))) ?_
    refine X_top (v := vi (M 80 x2)) (congrArg vi (MR.el mr (k := 80) (by decide) rfl)) ?_
    refine X_iload dX12_decode_157 rfl ?_
    refine X_idivP dX12_decode_159 (hB.2 c1).2.2.1 ?_
    refine X_bipush dX12_decode_160 (by decide) (by decide) ?_
    refine X_iremP dX12_decode_162 (by decide) ?_
    refine X_iaddN dX12_decode_163 (hB.2 c1).2.2.2.1 (hB.2 c1).2.2.2.2.1 ?_
    refine X_invV (ci := 12) (as := [vi (48 + (((M 80 x2).tdiv x4).tmod 10))]) (st := []) okX12_put_ dX12_decode_164 km_RX12_482 rfl rfl (Nat.le_of_ble_eq_true rfl) rfl rfl mr.1 (CT.of d 0 0 (hcl n_put__0 rfl [48 + (((M 80 x2).tdiv x4).tmod 10)] _ _ _ (hB.2 c1).2.2.2.2.2 mr) (Nat.le_refl _) (Nat.zero_le _) (Nat.zero_le _) (fun z2 S2 V2 hq2 => ?_))
    obtain ⟨rfl, M2, hc3, mr2, hf2⟩ := hq2
    have mf2 := MF.trans mf hf2
    refine X_iload dX12_decode_167 rfl ?_
    refine X_bipush dX12_decode_169 (by decide) (by decide) ?_
    refine X_idivP dX12_decode_171 (by decide) ?_
    refine X_istore dX12_decode_172 (by decide) rfl ?_
    refine X_goto dX12_decode_174 (tgt := 143) rfl ?_
    exact hrc n_decode_143 [x1, x2, x3, x4.tdiv 10] _ _ hc3 mr2 mf2
def B_decode_193 (rc : MP) (cl : MC) (Q : Int → Mem → Prop) (d : Nat) (x1 x2 : Int) (M : Mem) : Prop := ((M 0 83) ≤ x2 → Q (M 0 83) M) ∧ (¬ ((M 0 83) ≤ x2) → 0 ≤ x2 ∧ x2 < 3000 ∧ -2147483648 ≤ x2 + 1 ∧ x2 + 1 ≤ 2147483647 ∧ rc n_decode_193 [x1, x2 + 1] (up M 1 x2 (wb (M 82 x2))))
set_option maxRecDepth 10000 in
theorem s_decode_193 {l : Launch} {G : GT} {m : Int} {a : Int → Int} {d mc ms : Nat} {S : Sh} {Q : Int → Mem → Prop} {rc : MP} {cl : MC} {V0 V M : Mem} {x1 x2 : Int} (hrc : RCok l G m a S V0 Q d mc ms rc) (hcl : CLok l G m a S d cl) (mr : MR m a S V M) (mf : MF m a V0 V) (hB : B_decode_193 rc cl Q d x1 x2 M) : XJ l G bX12_decode (Qm m a S V0 Q) (d + 1) 193 [vr m, vi x1, vi x2, vu, vu] [] S V mc ms := by
  unfold B_decode_193 at hB
  refine X_iload_n dX12_decode_193 rfl ?_
  refine X_aload_n dX12_decode_194 rfl ?_
  refine X_getfield (ci := 12) (k := 83) (v := vi (M 0 83)) dX12_decode_195 rfl (by decide) kf_RX12_479 (congrArg vi (MR.in_ mr (k := 83) (by decide) rfl)) mr.1 ?_
  refine X_icmp_ge dX12_decode_198 (tgt := 219) rfl (fun c1 => ?_) (fun c1 => ?_)
  · refine X_aload_n dX12_decode_219 rfl ?_
    refine X_getfield (ci := 12) (k := 83) (v := vi (M 0 83)) dX12_decode_220 rfl (by decide) kf_RX12_479 (congrArg vi (MR.in_ mr (k := 83) (by decide) rfl)) mr.1 ?_
    exact X_ret (z := (M 0 83)) dX12_decode_223 rfl (fun hv => vok_h hv) ⟨rfl, _, (hB.1 c1), mr, mf⟩
  · refine X_aload_n dX12_decode_201 rfl ?_
    refine X_getfield (ci := 12) (k := 1) (v := vr (a 1)) dX12_decode_202 rfl (by decide) kf_RX12_7 (congrArg vr (MR.ar mr (k := 1) (by decide)).1) mr.1 ?_
    refine X_iload_n dX12_decode_205 rfl ?_
    refine X_aload_n dX12_decode_206 rfl ?_
    refine X_getfield (ci := 12) (k := 82) (v := vr (a 82)) dX12_decode_207 rfl (by decide) kf_RX12_185 (congrArg vr (MR.ar mr (k := 82) (by decide)).1) mr.1 ?_
    refine X_iload_n dX12_decode_210 rfl ?_
    refine X_baload dX12_decode_211 ((MR.ar mr (k := 82) (by decide)).2.1.trans (by decide)) (hB.2 c1).1 (lt_eq (hB.2 c1).2.1 (MR.ln mr (k := 82) (by decide) (by decide))) ?_
    refine X_top (v := vi (M 82 x2)) (congrArg vi (MR.el mr (k := 82) (by decide) rfl)) ?_
    refine X_bastore dX12_decode_212 ((MR.ar mr (k := 1) (by decide)).2.1.trans (by decide)) (hB.2 c1).1 (lt_eq (hB.2 c1).2.1 (MR.ln mr (k := 1) (by decide) (by decide))) ?_
    refine X_iincN dX12_decode_213 rfl (by decide) rfl (e := x2 + 1) rfl (hB.2 c1).2.2.1 (hB.2 c1).2.2.2.1 ?_
    refine X_goto dX12_decode_216 (tgt := 193) rfl ?_
    exact hrc n_decode_193 [x1, x2 + 1] _ _ (hB.2 c1).2.2.2.2 (MR.putA mr (k := 1) (j := x2) (z := wb (M 82 x2)) (by decide)) (MF.putA mf (k := 1) (j := x2) (z := wb (M 82 x2)) (by decide))
